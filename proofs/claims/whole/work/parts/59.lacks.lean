/-! the model's lacks, value -/
section
variable {fu : Nat} {S : Ws} {A : Ab} {r : Nat → Nat}
theorem Inv.frw {T : Ws} (I : Inv S A r) (h : FrW S T) : Inv T A r := by
  refine I.cg ?_ ?_ ?_ ?_ ?_ ?_ ?_ ?_ ?_ ?_
  · rw [h.1]
  · rw [h.1]
  · rw [h.1]
  · rw [h.1]
  · rw [h.1]
  · rw [h.1]
  · rw [h.1]
  · rw [h.1]
  · intro q hq
    refine h.2.2 q ?_ ?_ ?_ ?_ ?_ <;> (intro e; subst e; simp at hq)
  · intro q _ _
    rw [h.2.1]
theorem M_lacks0 (M : RM S A) (ht : aT A = none) {v : Int32} (hv : ¬ v ≤ 0) : f_M_lacks fu 59 v (enc S) = some (1, enc (sS S 59 0 v)) := by
  have hT := M.2.2.2.2.2
  rw [ht] at hT
  have hv0 : ¬ v = 0 := fun h => hv (by rw [h]; decide)
  simp only [f_M_lacks, f_M_lacks_13, f_M_lacks_27, f_M_lacks_39, Option.bind_some, is_0, gr_0_0, gr_0_1, gr_0_2, gr_0_3, gr_0_4, gr_0_5, gi_tp, pi_tp, gi_tf, pi_tf, gi_xf, pi_xf, is_1, gr_1_0, gr_1_1, gi_en, pi_en, is_4, gr_4_0, gr_4_1, gr_4_2, gr_4_3, gi_gn, pi_gn, is_9, gr_9_0, gr_9_1, gi_ts, pi_ts, gi_tw, pi_tw, gi_tc, pi_tc, is_40, gr_40_0, is_42, gr_42_0, gr_42_1, gi_dn, pi_dn, is_45, gr_45_0, gr_45_1, gi_xw, pi_xw, gi_xn, pi_xn, gi_xt, pi_xt, is_59, gi_mco, pi_mco, gi_mev, pi_mev, gr_59_2, gr_59_3, gi_mgt, pi_mgt, gr_59_5, gr_59_6, gr_59_7, gr_59_8, gi_mtp, pi_mtp, gr_59_10, gr_59_11, gr_59_12, gr_59_13, gr_59_14, gr_59_15, gi_mmy, pi_mmy, gr_59_17, gr_59_18, hT, show ¬ ((0 : Int32) ≤ -1) from by decide, if_false, sS1, upd_at, if_true, if_neg hv0, if_neg hv, or_true]
theorem M_lacks1 (O : Ok A r) (M : RM S A) {t : Nat} (ht : aT A = some t) {v : Int32} (hfu : 2000 ≤ fu) : ∃ T, FrW (sS S 59 0 0) T ∧ (∀ s, s < 2 ^ aE A → T.2.1 70 s = b32 (evR A r s t)) ∧ f_M_lacks fu 59 v (enc S) = some (0, enc T) := by
  have hT := M.2.2.2.2.2
  rw [ht] at hT
  have htg := O.2.2.2.2.2.2.2 t ht
  have hG := O.2.1
  obtain ⟨T, t1, t2, t3⟩ := M_work (fu := fu) (S := sS S 59 0 0) O (A := A) M ht hfu
  refine ⟨T, t1, t2, ?_⟩
  have h0 : (0 : Int32) ≤ n32 t := (n32_le (a := 0) (by omega) (by omega)).mpr (Nat.zero_le _)
  have hc : T.1 59 0 = 0 := by rw [t1.1]; rfl
  simp only [f_M_lacks, f_M_lacks_13, f_M_lacks_27, f_M_lacks_39, Option.bind_some, is_0, gr_0_0, gr_0_1, gr_0_2, gr_0_3, gr_0_4, gr_0_5, gi_tp, pi_tp, gi_tf, pi_tf, gi_xf, pi_xf, is_1, gr_1_0, gr_1_1, gi_en, pi_en, is_4, gr_4_0, gr_4_1, gr_4_2, gr_4_3, gi_gn, pi_gn, is_9, gr_9_0, gr_9_1, gi_ts, pi_ts, gi_tw, pi_tw, gi_tc, pi_tc, is_40, gr_40_0, is_42, gr_42_0, gr_42_1, gi_dn, pi_dn, is_45, gr_45_0, gr_45_1, gi_xw, pi_xw, gi_xn, pi_xn, gi_xt, pi_xt, is_59, gi_mco, pi_mco, gi_mev, pi_mev, gr_59_2, gr_59_3, gi_mgt, pi_mgt, gr_59_5, gr_59_6, gr_59_7, gr_59_8, gi_mtp, pi_mtp, gr_59_10, gr_59_11, gr_59_12, gr_59_13, gr_59_14, gr_59_15, gi_mmy, pi_mmy, gr_59_17, gr_59_18, hT, if_pos h0, sS1, upd_at, if_true, t3, hc, show (0 : Int32) ≤ 0 from by decide, true_or]
end
