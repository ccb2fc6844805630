/-! the model's work: the table of the top -/
section
variable {fu : Nat} {S : Ws} {A : Ab} {r : Nat → Nat}
def Fr2 (a b : Nat) (S T : Ws) : Prop := T.1 = S.1 ∧ T.2.2 = S.2.2 ∧ ∀ q, q ≠ a → q ≠ b → T.2.1 q = S.2.1 q
theorem RM.fr {T : Ws} (M : RM S A) (h1 : T.1 = S.1) (h2 : ∀ q, 60 ≤ q → q ≤ 65 → T.2.1 q = S.2.1 q) : RM T A := by
  unfold RM at M ⊢
  rw [h1, h2 60 (by omega) (by omega), h2 61 (by omega) (by omega), h2 62 (by omega) (by omega), h2 63 (by omega) (by omega), h2 64 (by omega) (by omega), h2 65 (by omega) (by omega)]
  exact M
theorem M_work18 (O : Ok A r) (M : RM S A) {L : List Nat} {t s : Nat} (ht : t < aG A) (hTp : S.1 59 9 = n32 t) (hs : s < 1024) (hL : L.length = aG A) (hm : ∀ g, g ∈ L ↔ g < aG A) (h68 : ∀ (i : Nat) (hi : i < L.length), S.2.1 68 i = n32 (L[i])) (hk : ∀ (i : Nat) (hi : i < L.length) (k : Nat), 16 + k ∈ aX A (L[i]) → k ∈ L.take i) (hnd : L.Nodup) (hfu : 2000 ≤ fu) (k6 : Nat → Int32 → List va_E → Option (List va_E)) : ∃ T, Fr2 69 70 S T ∧ (∀ s', s' ≠ s → T.2.1 70 s' = S.2.1 70 s') ∧ T.2.1 70 s = b32 (evR A r s t) ∧ f_M_work_18 fu k6 fu 59 (n32 s) 0 (enc S) = k6 59 (n32 (s + 1)) (enc T) := by
  have hE := O.1; have hG := O.2.1
  have hRk := O.2.2.2.2.2.2.1
  obtain ⟨T, ⟨f1, f2, f3, f4⟩, m, e⟩ := lp0 (F := fun n i T => f_M_work_18 fu k6 n 59 (n32 s) (n32 i) (enc T)) (I := fun i T => T.1 = S.1 ∧ T.2.2 = S.2.2 ∧ (∀ q, q ≠ 69 → T.2.1 q = S.2.1 q) ∧ ∀ g, g ∈ L.take i → T.2.1 69 g = b32 (evR A r s g)) (N := aG A) (n := fu) (s := S) (by omega) ⟨rfl, rfl, fun _ _ => rfl, fun g hg => absurd hg (by simp)⟩ (fun n i T hi hI => by
    obtain ⟨f1, f2, f3, f4⟩ := hI
    have hle : ¬ n32 (aG A) ≤ n32 i := by rw [n32_le (by omega) (by omega)]; omega
    have MT : RM T A := M.fr f1 (fun q h1 h2 => f3 q (by omega))
    have hiL : i < L.length := by omega
    have hgG : L[i] < aG A := (hm _).mp (List.getElem_mem hiL)
    have e68 : T.2.1 68 i = n32 (L[i]) := by rw [f3 68 (by omega)]; exact h68 i hiL
    have w := M_work41 (fu := fu) (S := T) (X := aX A) (H := aH A) (f := evR A r s) (ng := aG A) (g := L[i]) (s := s) (kd := aK A (L[i])) (vt := aV A (L[i])) hG hgG (by omega) (O.len _) (fun c hc => by have := (O.2.2.2.2.2.1 _ c hc).2; omega) MT.km (O.2.2.2.1 _ hgG).1 (O.2.2.2.1 _ hgG).2.1 (MT.2.2.2.1 _ hgG).1 (MT.2.2.2.1 _ hgG).2 (fun c hc h10 => by
      have hce : c < aE A := by have := (O.2.2.2.2.2.1 _ c hc).2; omega
      exact ⟨(O.2.2.1 c hce).2, (MT.2.1 c hce).2⟩) (fun k hkk => f4 k (hk i hiL k hkk)) (by omega) k6 (f_M_work_18 fu k6 n) i
    refine ⟨sI T 69 (L[i]) (b32 (evR A r s (L[i]))), ⟨f1, f2, fun q hq => ?_, fun g hg => ?_⟩, ?_⟩
    · rw [sI2, if_neg hq]; exact f3 q hq
    · rw [sI2, if_pos rfl, upd_at]
      by_cases hgi : g = L[i]
      · rw [if_pos hgi, hgi]
      · rw [if_neg hgi]
        exact f4 g (((take_mem hiL).mp hg).resolve_right hgi)
    · have hN' : T.1 59 4 = n32 (aG A) := MT.2.2.1
      simp only [f_M_work_18, Option.bind_some, is_0, gr_0_0, gr_0_1, gr_0_2, gr_0_3, gr_0_4, gr_0_5, gi_tp, pi_tp, gi_tf, pi_tf, gi_xf, pi_xf, is_1, gr_1_0, gr_1_1, gi_en, pi_en, is_4, gr_4_0, gr_4_1, gr_4_2, gr_4_3, gi_gn, pi_gn, is_9, gr_9_0, gr_9_1, gi_ts, pi_ts, gi_tw, pi_tw, gi_tc, pi_tc, is_40, gr_40_0, is_42, gr_42_0, gr_42_1, gi_dn, pi_dn, is_45, gr_45_0, gr_45_1, gi_xw, pi_xw, gi_xn, pi_xn, gi_xt, pi_xt, is_59, gi_mco, pi_mco, gi_mev, pi_mev, gr_59_2, gr_59_3, gi_mgt, pi_mgt, gr_59_5, gr_59_6, gr_59_7, gr_59_8, gi_mtp, pi_mtp, gr_59_10, gr_59_11, gr_59_12, gr_59_13, gr_59_14, gr_59_15, gi_mmy, pi_mmy, gr_59_17, gr_59_18, hN', if_neg hle, rd_mor (show i < 12 by omega), e68, ln_mul]
      rw [evR_eq hRk]
      exact w)
  have hTG : t ∈ L.take (aG A) := by rw [← hL, List.take_length]; exact (hm t).mpr ht
  refine ⟨sI T 70 s (b32 (evR A r s t)), ⟨f1, f2, fun q h69 h70 => by rw [sI2, if_neg h70]; exact f3 q h69⟩, fun s' hs' => ?_, ?_, ?_⟩
  · rw [sI2, if_pos rfl, upd_at, if_neg hs', f3 70 (by omega)]
  · rw [sI2, if_pos rfl, upd_at, if_pos rfl]
  · refine Eq.trans e ?_
    have hN' : T.1 59 4 = n32 (aG A) := by rw [f1]; exact M.2.2.1
    have hT' : T.1 59 9 = n32 t := by rw [f1]; exact hTp
    simp only [f_M_work_18, Option.bind_some, is_0, gr_0_0, gr_0_1, gr_0_2, gr_0_3, gr_0_4, gr_0_5, gi_tp, pi_tp, gi_tf, pi_tf, gi_xf, pi_xf, is_1, gr_1_0, gr_1_1, gi_en, pi_en, is_4, gr_4_0, gr_4_1, gr_4_2, gr_4_3, gi_gn, pi_gn, is_9, gr_9_0, gr_9_1, gi_ts, pi_ts, gi_tw, pi_tw, gi_tc, pi_tc, is_40, gr_40_0, is_42, gr_42_0, gr_42_1, gi_dn, pi_dn, is_45, gr_45_0, gr_45_1, gi_xw, pi_xw, gi_xn, pi_xn, gi_xt, pi_xt, is_59, gi_mco, pi_mco, gi_mev, pi_mev, gr_59_2, gr_59_3, gi_mgt, pi_mgt, gr_59_5, gr_59_6, gr_59_7, gr_59_8, gi_mtp, pi_mtp, gr_59_10, gr_59_11, gr_59_12, gr_59_13, gr_59_14, gr_59_15, gi_mmy, pi_mmy, gr_59_17, gr_59_18, hN', hT', if_pos (show n32 (aG A) ≤ n32 (aG A) from (n32_le (by omega) (by omega)).mpr (Nat.le_refl _)), rd_mon (show t < 12 by omega), f4 t hTG, wr_mtr hs, nar_b, nl_add]
/-- what work may change -/
def FrW (S T : Ws) : Prop := T.1 = S.1 ∧ T.2.2 = S.2.2 ∧ ∀ q, q ≠ 66 → q ≠ 67 → q ≠ 68 → q ≠ 69 → q ≠ 70 → T.2.1 q = S.2.1 q
theorem M_work (O : Ok A r) (M : RM S A) {t : Nat} (ht : aT A = some t) (hfu : 2000 ≤ fu) : ∃ T, FrW S T ∧ (∀ s, s < 2 ^ aE A → T.2.1 70 s = b32 (evR A r s t)) ∧ f_M_work fu 59 (enc S) = some (enc T) := by
  have hE := O.1; have hG := O.2.1
  have htg := O.2.2.2.2.2.2.2 t ht
  have hTp : S.1 59 9 = n32 t := by have := M.2.2.2.2.2; rw [ht] at this; exact this
  have hp : 2 ^ aE A ≤ 1024 := Nat.pow_le_pow_right (by omega) hE
  obtain ⟨L, U, u1, u2, u3, u4, u5, u6, u7⟩ := M_sort (fu := fu) (S := S) (X := aX A) (r := r) (ng := aG A) hG O.2.2.2.2.2.2.1 M.2.2.1 O.len (fun g c hc => ⟨(O.2.2.2.2.2.1 g c hc).1, by have := (O.2.2.2.2.2.1 g c hc).2; omega⟩) M.km (by omega)
  obtain ⟨T, ⟨t1, t2⟩, m, e⟩ := lp0 (F := fun n s T => f_M_work_6 fu n 59 (n32 s) (enc T)) (I := fun s T => Fr2 69 70 U T ∧ ∀ s', s' < s → T.2.1 70 s' = b32 (evR A r s' t)) (N := 2 ^ aE A) (n := fu) (s := U) (by omega) ⟨⟨rfl, rfl, fun _ _ _ => rfl⟩, fun s h => absurd h (by omega)⟩ (fun n s T hs hI => by
    obtain ⟨⟨f1, f2, f3⟩, h2⟩ := hI
    have hMT : RM T A := M.fr (f1.trans u1.1) (fun q h1 h2 => (f3 q (by omega) (by omega)).trans (u1.2.2 q (by omega) (by omega) (by omega)))
    obtain ⟨V, ⟨v1, v2, v3⟩, v4, v5, v6⟩ := M_work18 (fu := fu) (S := T) O hMT (L := L) (t := t) (s := s) htg (by rw [f1, u1.1]; exact hTp) (by omega) u2 u3 (fun i hi => by rw [f3 68 (by omega) (by omega)]; exact u4 i hi) u6 u5 hfu (f_M_work_6 fu n)
    refine ⟨V, ⟨⟨v1.trans f1, v2.trans f2, fun q h69 h70 => (v3 q h69 h70).trans (f3 q h69 h70)⟩, fun s' hs' => ?_⟩, ?_⟩
    · by_cases hss : s' = s
      · rw [hss]; exact v5
      · rw [v4 s' hss]; exact h2 s' (by omega)
    · have hle : ¬ n32 (2 ^ aE A) ≤ n32 s := by rw [n32_le (by omega) (by omega)]; omega
      simp only [f_M_work_6, Option.bind_some, is_0, gr_0_0, gr_0_1, gr_0_2, gr_0_3, gr_0_4, gr_0_5, gi_tp, pi_tp, gi_tf, pi_tf, gi_xf, pi_xf, is_1, gr_1_0, gr_1_1, gi_en, pi_en, is_4, gr_4_0, gr_4_1, gr_4_2, gr_4_3, gi_gn, pi_gn, is_9, gr_9_0, gr_9_1, gi_ts, pi_ts, gi_tw, pi_tw, gi_tc, pi_tc, is_40, gr_40_0, is_42, gr_42_0, gr_42_1, gi_dn, pi_dn, is_45, gr_45_0, gr_45_1, gi_xw, pi_xw, gi_xn, pi_xn, gi_xt, pi_xt, is_59, gi_mco, pi_mco, gi_mev, pi_mev, gr_59_2, gr_59_3, gi_mgt, pi_mgt, gr_59_5, gr_59_6, gr_59_7, gr_59_8, gi_mtp, pi_mtp, gr_59_10, gr_59_11, gr_59_12, gr_59_13, gr_59_14, gr_59_15, gi_mmy, pi_mmy, gr_59_17, gr_59_18, hMT.1, n32_shl (show aE A < 31 by omega), if_neg hle]
      exact v6)
  refine ⟨T, ⟨t1.1.trans u1.1, t1.2.1.trans u1.2.1, fun q h66 h67 h68 h69 h70 => (t1.2.2 q h69 h70).trans (u1.2.2 q h66 h67 h68)⟩, t2, ?_⟩
  simp only [f_M_work, Option.bind_some, is_0, gr_0_0, gr_0_1, gr_0_2, gr_0_3, gr_0_4, gr_0_5, gi_tp, pi_tp, gi_tf, pi_tf, gi_xf, pi_xf, is_1, gr_1_0, gr_1_1, gi_en, pi_en, is_4, gr_4_0, gr_4_1, gr_4_2, gr_4_3, gi_gn, pi_gn, is_9, gr_9_0, gr_9_1, gi_ts, pi_ts, gi_tw, pi_tw, gi_tc, pi_tc, is_40, gr_40_0, is_42, gr_42_0, gr_42_1, gi_dn, pi_dn, is_45, gr_45_0, gr_45_1, gi_xw, pi_xw, gi_xn, pi_xn, gi_xt, pi_xt, is_59, gi_mco, pi_mco, gi_mev, pi_mev, gr_59_2, gr_59_3, gi_mgt, pi_mgt, gr_59_5, gr_59_6, gr_59_7, gr_59_8, gi_mtp, pi_mtp, gr_59_10, gr_59_11, gr_59_12, gr_59_13, gr_59_14, gr_59_15, gi_mmy, pi_mmy, gr_59_17, gr_59_18, u7]
  refine Eq.trans e ?_
  have hE' : T.1 59 1 = n32 (aE A) := by rw [t1.1, u1.1]; exact M.1
  simp only [f_M_work_6, Option.bind_some, is_0, gr_0_0, gr_0_1, gr_0_2, gr_0_3, gr_0_4, gr_0_5, gi_tp, pi_tp, gi_tf, pi_tf, gi_xf, pi_xf, is_1, gr_1_0, gr_1_1, gi_en, pi_en, is_4, gr_4_0, gr_4_1, gr_4_2, gr_4_3, gi_gn, pi_gn, is_9, gr_9_0, gr_9_1, gi_ts, pi_ts, gi_tw, pi_tw, gi_tc, pi_tc, is_40, gr_40_0, is_42, gr_42_0, gr_42_1, gi_dn, pi_dn, is_45, gr_45_0, gr_45_1, gi_xw, pi_xw, gi_xn, pi_xn, gi_xt, pi_xt, is_59, gi_mco, pi_mco, gi_mev, pi_mev, gr_59_2, gr_59_3, gi_mgt, pi_mgt, gr_59_5, gr_59_6, gr_59_7, gr_59_8, gi_mtp, pi_mtp, gr_59_10, gr_59_11, gr_59_12, gr_59_13, gr_59_14, gr_59_15, gi_mmy, pi_mmy, gr_59_17, gr_59_18, hE', n32_shl (show aE A < 31 by omega), if_pos (show n32 (2 ^ aE A) ≤ n32 (2 ^ aE A) from (n32_le (by omega) (by omega)).mpr (Nat.le_refl _))]
end
