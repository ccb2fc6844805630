/-! fill, isTrue -/
section
variable {fu : Nat} {S : Ws} {A : Ab} {r : Nat → Nat}
theorem wo_le {n : Nat} (h : n ≤ 10) : wo n ≤ 16 ∧ 1 ≤ wo n := by
  unfold wo
  have := Nat.pow_le_pow_right (n := 2) (by omega) h
  split <;> omega
theorem n32_wo {n : Nat} (h : n ≤ 10) : (if (1 : Int32) < n32 (2 ^ n) / (64 : Int32) then n32 (2 ^ n) / (64 : Int32) else (1 : Int32)) = n32 (wo n) := by
  have h1 := Nat.pow_le_pow_right (n := 2) (by omega) h
  rw [nl_div (by omega) (by omega) (by omega)]
  have h2 : 2 ^ n / 64 < 2147483648 := by omega
  unfold wo
  by_cases h3 : 1 < 2 ^ n / 64
  · rw [if_pos ((ln_lt h2 (by omega)).mpr h3), if_pos h3]
  · rw [if_neg (fun q => h3 ((ln_lt h2 (by omega)).mp q)), if_neg h3]; rfl
/-- what fill may change -/
def FrT (S T : Ws) : Prop := (∀ q, q ≠ 9 → T.1 q = S.1 q) ∧ (∀ q, q ≠ 39 → T.2.1 q = S.2.1 q) ∧ (∀ q, q < 11 ∨ 39 ≤ q → T.2.2 q = S.2.2 q)
theorem T_fill (O : Ok A r) (G : RG S A) {t : Nat} (ht : t < aG A) (hE : S.1 1 2 = n32 (aE A)) (v4 : Int32) (hH : ∀ e, e < aE A → (if n32 e = v4 then (0 : Int32) else S.2.1 3 e) = n32 (aH A e)) (hfu : 200 ≤ fu) : ∃ T, FrT S T ∧ T.1 9 2 = n32 (2 ^ aE A) ∧ T.1 9 3 = n32 (wo (aE A)) ∧ T.1 9 4 = n32 (16 + t) ∧ (∀ w, w < wo (aE A) → ∀ b, b < 64 → lb (T.2.2 (11 + (16 + t)) w) b = evR A r (64 * w + b) t) ∧ f_T_fill fu 9 1 4 (n32 t) v4 (enc S) = some (enc T) := by
  have hE10 := O.1
  have hG12 := O.2.1
  have hw := wo_le hE10
  obtain ⟨U, hU⟩ : ∃ U, U = sS (sS (sS S 9 2 (n32 (2 ^ aE A))) 9 3 (n32 (wo (aE A)))) 9 4 (n32 (16 + t)) := ⟨_, rfl⟩
  have u1 : U.1 1 = S.1 1 := by rw [hU]; rfl
  have u2 : U.1 9 2 = n32 (2 ^ aE A) := by rw [hU]; rfl
  have u3 : U.1 9 3 = n32 (wo (aE A)) := by rw [hU]; rfl
  have u4 : U.1 9 4 = n32 (16 + t) := by rw [hU]; rfl
  have u5 : U.2 = S.2 := by rw [hU]; rfl
  have u6 : ∀ q, q ≠ 9 → U.1 q = S.1 q := fun q hq => by
    rw [hU, sS1, if_neg hq, sS1, if_neg hq, sS1, if_neg hq]
  obtain ⟨T, ⟨⟨f1, f2, f3⟩, h2⟩, m, e⟩ := lp0 (F := fun n j T => f_T_fill_36 fu n 9 1 4 v4 (n32 j) (enc T)) (I := fun j T => (T.1 = U.1 ∧ T.2.1 = U.2.1 ∧ ∀ q, q < 11 ∨ 21 ≤ q → T.2.2 q = U.2.2 q) ∧ ∀ e, e < j → ∀ w, w < wo (aE A) → ∀ b, b < 64 → lb (T.2.2 (11 + e) w) b = (if aH A e = 0 then (64 * w + b).testBit e else decide (aH A e = 2))) (N := aE A) (n := fu) (s := U) (by omega) ⟨⟨rfl, rfl, fun _ _ => rfl⟩, fun e h => absurd h (by omega)⟩ (fun n j T hj hI => by
    obtain ⟨⟨f1, f2, f3⟩, h2⟩ := hI
    have hle : ¬ n32 (aE A) ≤ n32 j := by rw [n32_le (by omega) (by omega)]; omega
    have hN' : T.1 1 2 = n32 (aE A) := by rw [f1, u1]; exact hE
    have hh := hH j hj
    have h3 : T.2.1 3 j = S.2.1 3 j := by rw [f2, u5]
    obtain ⟨T', ⟨t1, t2, t3⟩, t4, t5⟩ := T_fe (fu := fu) (S := T) (e := j) (how := aH A j) (nw := wo (aE A)) (by omega) (O.2.2.1 j hj).2 hw.1 (by rw [f1]; exact u3) hfu
    refine ⟨T', ⟨⟨t1.trans f1, t2.trans f2, fun q hq => (t3 q (by omega)).trans (f3 q hq)⟩, fun e he w hww b hb => ?_⟩, ?_⟩
    · by_cases hej : e = j
      · subst hej; exact t4 w hww b hb
      · rw [t3 (11 + e) (by omega)]; exact h2 e (by omega) w hww b hb
    · by_cases hv : n32 j = v4
      · rw [if_pos hv] at hh
        rw [← hh] at t5
        simp only [f_T_fill_36, f_T_fill_66, Option.bind_some, is_0, gr_0_0, gr_0_1, gr_0_2, gr_0_3, gr_0_4, gr_0_5, gi_tp, pi_tp, gi_tf, pi_tf, gi_xf, pi_xf, is_1, gr_1_0, gr_1_1, gi_en, pi_en, is_4, gr_4_0, gr_4_1, gr_4_2, gr_4_3, gi_gn, pi_gn, is_9, gr_9_0, gr_9_1, gi_ts, pi_ts, gi_tw, pi_tw, gi_tc, pi_tc, is_40, gr_40_0, is_42, gr_42_0, gr_42_1, gi_dn, pi_dn, is_45, gr_45_0, gr_45_1, gi_xw, pi_xw, gi_xn, pi_xn, gi_xt, pi_xt, is_59, gi_mco, pi_mco, gi_mev, pi_mev, gr_59_2, gr_59_3, gi_mgt, pi_mgt, gr_59_5, gr_59_6, gr_59_7, gr_59_8, gi_mtp, pi_mtp, gr_59_10, gr_59_11, gr_59_12, gr_59_13, gr_59_14, gr_59_15, gi_mmy, pi_mmy, gr_59_17, gr_59_18, hN', if_neg hle, if_pos hv, t5, nl_add]
      · rw [if_neg hv] at hh
        rw [← hh, ← h3] at t5
        simp only [f_T_fill_36, f_T_fill_66, Option.bind_some, is_0, gr_0_0, gr_0_1, gr_0_2, gr_0_3, gr_0_4, gr_0_5, gi_tp, pi_tp, gi_tf, pi_tf, gi_xf, pi_xf, is_1, gr_1_0, gr_1_1, gi_en, pi_en, is_4, gr_4_0, gr_4_1, gr_4_2, gr_4_3, gi_gn, pi_gn, is_9, gr_9_0, gr_9_1, gi_ts, pi_ts, gi_tw, pi_tw, gi_tc, pi_tc, is_40, gr_40_0, is_42, gr_42_0, gr_42_1, gi_dn, pi_dn, is_45, gr_45_0, gr_45_1, gi_xw, pi_xw, gi_xn, pi_xn, gi_xt, pi_xt, is_59, gi_mco, pi_mco, gi_mev, pi_mev, gr_59_2, gr_59_3, gi_mgt, pi_mgt, gr_59_5, gr_59_6, gr_59_7, gr_59_8, gi_mtp, pi_mtp, gr_59_10, gr_59_11, gr_59_12, gr_59_13, gr_59_14, gr_59_15, gi_mmy, pi_mmy, gr_59_17, gr_59_18, hN', if_neg hle, if_neg hv, rd_ehd (show j < 10 by omega), t5, nl_add])
  have hNT : T.1 1 2 = n32 (aE A) := by rw [f1, u1]; exact hE
  have GT : RG T A := by
    refine ⟨?_, fun g hg => ?_, fun g hg c hc => ?_⟩
    · rw [f1, u6 4 (by omega)]; exact G.1
    · rw [f2, u5]; exact G.2.1 g hg
    · rw [f2, u5]; exact G.2.2 g hg c hc
  obtain ⟨V, ⟨v1, v2, v3⟩, v4', v5⟩ := T_fgs (fu := fu) (U := T) O GT ht hw.1 (by rw [f1]; exact u3) (by rw [f1]; exact u4) h2 hfu
  refine ⟨V, ⟨fun q hq => by rw [v1, f1, u6 q hq], fun q hq => by rw [v2 q hq, f2, u5], fun q hq => by rw [v3 q (by omega), f3 q (by omega), u5]⟩, by rw [v1, f1, u2], by rw [v1, f1, u3], by rw [v1, f1, u4], v4', ?_⟩
  have ex : f_T_fill fu 9 1 4 (n32 t) v4 (enc S) = f_T_fill_36 fu fu 9 1 4 v4 (n32 0) (enc U) := by
    simp only [f_T_fill, Option.bind_some, is_0, gr_0_0, gr_0_1, gr_0_2, gr_0_3, gr_0_4, gr_0_5, gi_tp, pi_tp, gi_tf, pi_tf, gi_xf, pi_xf, is_1, gr_1_0, gr_1_1, gi_en, pi_en, is_4, gr_4_0, gr_4_1, gr_4_2, gr_4_3, gi_gn, pi_gn, is_9, gr_9_0, gr_9_1, gi_ts, pi_ts, gi_tw, pi_tw, gi_tc, pi_tc, is_40, gr_40_0, is_42, gr_42_0, gr_42_1, gi_dn, pi_dn, is_45, gr_45_0, gr_45_1, gi_xw, pi_xw, gi_xn, pi_xn, gi_xt, pi_xt, is_59, gi_mco, pi_mco, gi_mev, pi_mev, gr_59_2, gr_59_3, gi_mgt, pi_mgt, gr_59_5, gr_59_6, gr_59_7, gr_59_8, gi_mtp, pi_mtp, gr_59_10, gr_59_11, gr_59_12, gr_59_13, gr_59_14, gr_59_15, gi_mmy, pi_mmy, gr_59_17, gr_59_18, hE, n32_shl (show aE A < 31 by omega), sS1, if_true, upd_at, n32_wo hE10, ln_add]
    rw [hU]; rfl
  rw [ex]
  refine Eq.trans e ?_
  simp only [f_T_fill_36, Option.bind_some, is_0, gr_0_0, gr_0_1, gr_0_2, gr_0_3, gr_0_4, gr_0_5, gi_tp, pi_tp, gi_tf, pi_tf, gi_xf, pi_xf, is_1, gr_1_0, gr_1_1, gi_en, pi_en, is_4, gr_4_0, gr_4_1, gr_4_2, gr_4_3, gi_gn, pi_gn, is_9, gr_9_0, gr_9_1, gi_ts, pi_ts, gi_tw, pi_tw, gi_tc, pi_tc, is_40, gr_40_0, is_42, gr_42_0, gr_42_1, gi_dn, pi_dn, is_45, gr_45_0, gr_45_1, gi_xw, pi_xw, gi_xn, pi_xn, gi_xt, pi_xt, is_59, gi_mco, pi_mco, gi_mev, pi_mev, gr_59_2, gr_59_3, gi_mgt, pi_mgt, gr_59_5, gr_59_6, gr_59_7, gr_59_8, gi_mtp, pi_mtp, gr_59_10, gr_59_11, gr_59_12, gr_59_13, gr_59_14, gr_59_15, gi_mmy, pi_mmy, gr_59_17, gr_59_18, hNT, if_pos (show n32 (aE A) ≤ n32 (aE A) from (n32_le (by omega) (by omega)).mpr (Nat.le_refl _)), v5]
end
