/-! the rows of the events -/
section
variable {fu : Nat} {S : Ws}
theorem on_b : ∀ e, e < 6 → ∀ b, b < 64 → lb (tabON e) b = b.testBit e := by decide +kernel
theorem tb64 {w b e : Nat} (hb : b < 64) : (64 * w + b).testBit e = if e < 6 then b.testBit e else w.testBit (e - 6) := Nat.testBit_two_pow_mul_add (i := 6) w (show b < 2 ^ 6 from hb) e
/-- long arrays but one are the same -/
def FrL (q0 : Nat) (S T : Ws) : Prop := T.1 = S.1 ∧ T.2.1 = S.2.1 ∧ ∀ q, q ≠ q0 → T.2.2 q = S.2.2 q
theorem T_fe {e how nw : Nat} (he : e < 10) (hh : how ≤ 2) (hw : nw ≤ 16) (hW : S.1 9 3 = n32 nw) (hfu : 200 ≤ fu) : ∃ T, FrL (11 + e) S T ∧ (∀ w, w < nw → ∀ b, b < 64 → lb (T.2.2 (11 + e) w) b = (if how = 0 then (64 * w + b).testBit e else decide (how = 2))) ∧ f_T_fillEvent fu 9 (n32 e) (n32 how) (enc S) = some (enc T) := by
  obtain ⟨T, ⟨t1, t2⟩, m, e1⟩ := lp0 (F := fun n j T => f_T_fillEvent_2 fu n 9 (n32 e) (n32 how) (n32 j) (enc T)) (I := fun j T => FrL (11 + e) S T ∧ ∀ w, w < j → ∀ b, b < 64 → lb (T.2.2 (11 + e) w) b = (if how = 0 then (64 * w + b).testBit e else decide (how = 2))) (N := nw) (n := fu) (s := S) (by omega) ⟨⟨rfl, rfl, fun _ _ => rfl⟩, fun w h => absurd h (by omega)⟩ (fun n j T hj hI => by
    obtain ⟨⟨f1, f2, f3⟩, h2⟩ := hI
    have hW' : T.1 9 3 = n32 nw := by rw [f1]; exact hW
    have hle : ¬ n32 nw ≤ n32 j := by rw [n32_le (by omega) (by omega)]; omega
    have nx : ∀ y : Int64, (∀ b, b < 64 → lb y b = (if how = 0 then (64 * j + b).testBit e else decide (how = 2))) → f_T_fillEvent_2 fu (n + 1) 9 (n32 e) (n32 how) (n32 j) (enc T) = f_T_fillEvent_2 fu n 9 (n32 e) (n32 how) (n32 (j + 1)) (enc (sL T (11 + e) j y)) → ∃ T', (FrL (11 + e) S T' ∧ ∀ w, w < j + 1 → ∀ b, b < 64 → lb (T'.2.2 (11 + e) w) b = (if how = 0 then (64 * w + b).testBit e else decide (how = 2))) ∧ f_T_fillEvent_2 fu (n + 1) 9 (n32 e) (n32 how) (n32 j) (enc T) = f_T_fillEvent_2 fu n 9 (n32 e) (n32 how) (n32 (j + 1)) (enc T') := fun y hy ey => by
      refine ⟨sL T (11 + e) j y, ⟨⟨f1, f2, fun q hq => by rw [sL3, if_neg hq]; exact f3 q hq⟩, fun w hw b hb => ?_⟩, ey⟩
      rw [sL3, if_pos rfl, updL_at]
      by_cases hwj : w = j
      · subst hwj; rw [if_pos rfl]; exact hy b hb
      · rw [if_neg hwj]; exact h2 w (Nat.lt_of_le_of_ne (Nat.le_of_lt_succ hw) hwj) b hb
    have hj16 : j < 16 := by omega
    by_cases h0 : how = 0
    · by_cases h6 : 6 ≤ e
      · have hbt : bt (n32 j) (e - 6) = j.testBit (e - 6) := by rw [bt_n]; simp; omega
        refine nx (if j.testBit (e - 6) = true then -1 else 0) (fun b hb => ?_) ?_
        · rw [if_pos h0, tb64 hb, if_neg (show ¬ e < 6 by omega)]
          cases j.testBit (e - 6)
          · simp [lb_0]
          · simp [lb_m1 b hb]
        · simp only [f_T_fillEvent_2, f_T_fillEvent_84, f_T_fillEvent_85, Option.bind_some, is_0, gr_0_0, gr_0_1, gr_0_2, gr_0_3, gr_0_4, gr_0_5, gi_tp, pi_tp, gi_tf, pi_tf, gi_xf, pi_xf, is_1, gr_1_0, gr_1_1, gi_en, pi_en, is_4, gr_4_0, gr_4_1, gr_4_2, gr_4_3, gi_gn, pi_gn, is_9, gr_9_0, gr_9_1, gi_ts, pi_ts, gi_tw, pi_tw, gi_tc, pi_tc, is_40, gr_40_0, is_42, gr_42_0, gr_42_1, gi_dn, pi_dn, is_45, gr_45_0, gr_45_1, gi_xw, pi_xw, gi_xn, pi_xn, gi_xt, pi_xt, is_59, gi_mco, pi_mco, gi_mev, pi_mev, gr_59_2, gr_59_3, gi_mgt, pi_mgt, gr_59_5, gr_59_6, gr_59_7, gr_59_8, gi_mtp, pi_mtp, gr_59_10, gr_59_11, gr_59_12, gr_59_13, gr_59_14, gr_59_15, gi_mmy, pi_mmy, gr_59_17, gr_59_18, hW', if_neg hle, n32_z (show how < 2147483648 by omega), if_pos h0, ln_le (show e < 2147483648 by omega) (show 6 < 2147483648 by omega), if_pos h6, ra_rw (show e < 28 by omega), nl_sub h6, ts_0 (show e - 6 < 32 by omega), hbt, wr_rw (show e < 28 by omega) hj16, nl_add]
          cases j.testBit (e - 6) <;> rfl
      · refine nx (tabON e) (fun b hb => ?_) ?_
        · rw [if_pos h0, tb64 hb, if_pos (show e < 6 by omega), on_b e (by omega) b hb]
        · simp only [f_T_fillEvent_2, f_T_fillEvent_85, Option.bind_some, is_0, gr_0_0, gr_0_1, gr_0_2, gr_0_3, gr_0_4, gr_0_5, gi_tp, pi_tp, gi_tf, pi_tf, gi_xf, pi_xf, is_1, gr_1_0, gr_1_1, gi_en, pi_en, is_4, gr_4_0, gr_4_1, gr_4_2, gr_4_3, gi_gn, pi_gn, is_9, gr_9_0, gr_9_1, gi_ts, pi_ts, gi_tw, pi_tw, gi_tc, pi_tc, is_40, gr_40_0, is_42, gr_42_0, gr_42_1, gi_dn, pi_dn, is_45, gr_45_0, gr_45_1, gi_xw, pi_xw, gi_xn, pi_xn, gi_xt, pi_xt, is_59, gi_mco, pi_mco, gi_mev, pi_mev, gr_59_2, gr_59_3, gi_mgt, pi_mgt, gr_59_5, gr_59_6, gr_59_7, gr_59_8, gi_mtp, pi_mtp, gr_59_10, gr_59_11, gr_59_12, gr_59_13, gr_59_14, gr_59_15, gi_mmy, pi_mmy, gr_59_17, gr_59_18, hW', if_neg hle, n32_z (show how < 2147483648 by omega), if_pos h0, ln_le (show e < 2147483648 by omega) (show 6 < 2147483648 by omega), if_neg h6, ra_rw (show e < 28 by omega), n32_c (show e < 2147483648 by omega), wr_rw (show e < 28 by omega) hj16, nl_add]
          rw [if_pos (fun q => q.elim (n32_nn (by omega)) h6)]
    · by_cases h2' : how = 2
      · refine nx (-1) (fun b hb => by rw [if_neg h0, lb_m1 b hb, decide_eq_true h2']) ?_
        simp only [f_T_fillEvent_2, f_T_fillEvent_33, f_T_fillEvent_85, Option.bind_some, is_0, gr_0_0, gr_0_1, gr_0_2, gr_0_3, gr_0_4, gr_0_5, gi_tp, pi_tp, gi_tf, pi_tf, gi_xf, pi_xf, is_1, gr_1_0, gr_1_1, gi_en, pi_en, is_4, gr_4_0, gr_4_1, gr_4_2, gr_4_3, gi_gn, pi_gn, is_9, gr_9_0, gr_9_1, gi_ts, pi_ts, gi_tw, pi_tw, gi_tc, pi_tc, is_40, gr_40_0, is_42, gr_42_0, gr_42_1, gi_dn, pi_dn, is_45, gr_45_0, gr_45_1, gi_xw, pi_xw, gi_xn, pi_xn, gi_xt, pi_xt, is_59, gi_mco, pi_mco, gi_mev, pi_mev, gr_59_2, gr_59_3, gi_mgt, pi_mgt, gr_59_5, gr_59_6, gr_59_7, gr_59_8, gi_mtp, pi_mtp, gr_59_10, gr_59_11, gr_59_12, gr_59_13, gr_59_14, gr_59_15, gi_mmy, pi_mmy, gr_59_17, gr_59_18, hW', if_neg hle, n32_z (show how < 2147483648 by omega), if_neg h0, ra_rw (show e < 28 by omega), nl_eq (show how < 2147483648 by omega) (show 2 < 2147483648 by omega), if_pos h2', wr_rw (show e < 28 by omega) hj16, nl_add]
      · refine nx 0 (fun b hb => by rw [if_neg h0, lb_0, decide_eq_false h2']) ?_
        simp only [f_T_fillEvent_2, f_T_fillEvent_33, f_T_fillEvent_85, Option.bind_some, is_0, gr_0_0, gr_0_1, gr_0_2, gr_0_3, gr_0_4, gr_0_5, gi_tp, pi_tp, gi_tf, pi_tf, gi_xf, pi_xf, is_1, gr_1_0, gr_1_1, gi_en, pi_en, is_4, gr_4_0, gr_4_1, gr_4_2, gr_4_3, gi_gn, pi_gn, is_9, gr_9_0, gr_9_1, gi_ts, pi_ts, gi_tw, pi_tw, gi_tc, pi_tc, is_40, gr_40_0, is_42, gr_42_0, gr_42_1, gi_dn, pi_dn, is_45, gr_45_0, gr_45_1, gi_xw, pi_xw, gi_xn, pi_xn, gi_xt, pi_xt, is_59, gi_mco, pi_mco, gi_mev, pi_mev, gr_59_2, gr_59_3, gi_mgt, pi_mgt, gr_59_5, gr_59_6, gr_59_7, gr_59_8, gi_mtp, pi_mtp, gr_59_10, gr_59_11, gr_59_12, gr_59_13, gr_59_14, gr_59_15, gi_mmy, pi_mmy, gr_59_17, gr_59_18, hW', if_neg hle, n32_z (show how < 2147483648 by omega), if_neg h0, ra_rw (show e < 28 by omega), nl_eq (show how < 2147483648 by omega) (show 2 < 2147483648 by omega), if_neg h2', wr_rw (show e < 28 by omega) hj16, nl_add])
  refine ⟨T, t1, t2, ?_⟩
  simp only [f_T_fillEvent]
  refine Eq.trans e1 ?_
  have hW' : T.1 9 3 = n32 nw := by rw [t1.1]; exact hW
  simp only [f_T_fillEvent_2, Option.bind_some, is_0, gr_0_0, gr_0_1, gr_0_2, gr_0_3, gr_0_4, gr_0_5, gi_tp, pi_tp, gi_tf, pi_tf, gi_xf, pi_xf, is_1, gr_1_0, gr_1_1, gi_en, pi_en, is_4, gr_4_0, gr_4_1, gr_4_2, gr_4_3, gi_gn, pi_gn, is_9, gr_9_0, gr_9_1, gi_ts, pi_ts, gi_tw, pi_tw, gi_tc, pi_tc, is_40, gr_40_0, is_42, gr_42_0, gr_42_1, gi_dn, pi_dn, is_45, gr_45_0, gr_45_1, gi_xw, pi_xw, gi_xn, pi_xn, gi_xt, pi_xt, is_59, gi_mco, pi_mco, gi_mev, pi_mev, gr_59_2, gr_59_3, gi_mgt, pi_mgt, gr_59_5, gr_59_6, gr_59_7, gr_59_8, gi_mtp, pi_mtp, gr_59_10, gr_59_11, gr_59_12, gr_59_13, gr_59_14, gr_59_15, gi_mmy, pi_mmy, gr_59_17, gr_59_18, hW', if_pos (show n32 nw ≤ n32 nw from (n32_le (by omega) (by omega)).mpr (Nat.le_refl _))]
end
