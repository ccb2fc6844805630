/-! the plain calls: what the desk and the model ask of their arguments -/
/-- an int within a count -/
def vd (n : Nat) (v : Int32) : Bool := decide (¬ v < 0 ∧ v < n32 n)
theorem vd_of {n : Nat} {v : Int32} (hn : n < 2147483648) (h : vd n v = true) : ∃ k, k < n ∧ v = n32 k := by
  have h := of_decide_eq_true h
  obtain ⟨k, hk, rfl⟩ := n32_of h.1
  exact ⟨k, (n32_lt hk hn).mp h.2, rfl⟩
theorem vd_n {n k : Nat} (hn : n < 2147483648) (hk : k < n) : vd n (n32 k) = true := decide_eq_true ⟨n32_nn (by omega), (n32_lt (by omega) hn).mpr hk⟩
theorem i32_not_lt {a b : Int32} : ¬ a < b ↔ b ≤ a := by rw [Int32.lt_iff_toInt_lt, Int32.le_iff_toInt_le]; omega
theorem i32_not_le {a b : Int32} : ¬ a ≤ b ↔ b < a := by rw [Int32.lt_iff_toInt_lt, Int32.le_iff_toInt_le]; omega
theorem vd_if {α : Type} {n : Nat} {v : Int32} {x y : α} : (if v < 0 then x else if n32 n ≤ v then x else y) = (if vd n v = true then y else x) := by
  unfold vd
  by_cases h : v < 0
  · rw [if_pos h, if_neg (by simp [h])]
  · rw [if_neg h]
    by_cases h2 : n32 n ≤ v
    · rw [if_pos h2, if_neg (by simp only [decide_eq_true_eq]; exact fun hh => (i32_not_lt.mpr h2) hh.2)]
    · rw [if_neg h2, if_pos (by simp only [decide_eq_true_eq]; exact ⟨h, i32_not_le.mp h2⟩)]
section
variable {fu n : Nat} {S : Ws} {v : Int32}
theorem E_has (h : S.1 1 2 = n32 n) : f_E_has fu 1 v (enc S) = some (b32 (vd n v), enc S) := by
  simp only [f_E_has, Option.bind_some, is_0, gr_0_0, gr_0_1, gr_0_2, gr_0_3, gr_0_4, gr_0_5, gi_tp, pi_tp, gi_tf, pi_tf, gi_xf, pi_xf, is_1, gr_1_0, gr_1_1, gi_en, pi_en, is_4, gr_4_0, gr_4_1, gr_4_2, gr_4_3, gi_gn, pi_gn, is_9, gr_9_0, gr_9_1, gi_ts, pi_ts, gi_tw, pi_tw, gi_tc, pi_tc, is_40, gr_40_0, is_42, gr_42_0, gr_42_1, gi_dn, pi_dn, is_45, gr_45_0, gr_45_1, gi_xw, pi_xw, gi_xn, pi_xn, gi_xt, pi_xt, is_59, gi_mco, pi_mco, gi_mev, pi_mev, gr_59_2, gr_59_3, gi_mgt, pi_mgt, gr_59_5, gr_59_6, gr_59_7, gr_59_8, gi_mtp, pi_mtp, gr_59_10, gr_59_11, gr_59_12, gr_59_13, gr_59_14, gr_59_15, gi_mmy, pi_mmy, gr_59_17, gr_59_18, f_E_has_16, f_E_has_17, h]
  rw [vd_if]
  cases vd n v <;> rfl
theorem G_has (h : S.1 4 4 = n32 n) : f_G_has fu 4 v (enc S) = some (b32 (vd n v), enc S) := by
  simp only [f_G_has, Option.bind_some, is_0, gr_0_0, gr_0_1, gr_0_2, gr_0_3, gr_0_4, gr_0_5, gi_tp, pi_tp, gi_tf, pi_tf, gi_xf, pi_xf, is_1, gr_1_0, gr_1_1, gi_en, pi_en, is_4, gr_4_0, gr_4_1, gr_4_2, gr_4_3, gi_gn, pi_gn, is_9, gr_9_0, gr_9_1, gi_ts, pi_ts, gi_tw, pi_tw, gi_tc, pi_tc, is_40, gr_40_0, is_42, gr_42_0, gr_42_1, gi_dn, pi_dn, is_45, gr_45_0, gr_45_1, gi_xw, pi_xw, gi_xn, pi_xn, gi_xt, pi_xt, is_59, gi_mco, pi_mco, gi_mev, pi_mev, gr_59_2, gr_59_3, gi_mgt, pi_mgt, gr_59_5, gr_59_6, gr_59_7, gr_59_8, gi_mtp, pi_mtp, gr_59_10, gr_59_11, gr_59_12, gr_59_13, gr_59_14, gr_59_15, gi_mmy, pi_mmy, gr_59_17, gr_59_18, f_G_has_16, f_G_has_17, h]
  rw [vd_if]
  cases vd n v <;> rfl
theorem M_isEvent (h : S.1 59 1 = n32 n) : f_M_isEvent fu 59 v (enc S) = some (b32 (vd n v), enc S) := by
  simp only [f_M_isEvent, Option.bind_some, is_0, gr_0_0, gr_0_1, gr_0_2, gr_0_3, gr_0_4, gr_0_5, gi_tp, pi_tp, gi_tf, pi_tf, gi_xf, pi_xf, is_1, gr_1_0, gr_1_1, gi_en, pi_en, is_4, gr_4_0, gr_4_1, gr_4_2, gr_4_3, gi_gn, pi_gn, is_9, gr_9_0, gr_9_1, gi_ts, pi_ts, gi_tw, pi_tw, gi_tc, pi_tc, is_40, gr_40_0, is_42, gr_42_0, gr_42_1, gi_dn, pi_dn, is_45, gr_45_0, gr_45_1, gi_xw, pi_xw, gi_xn, pi_xn, gi_xt, pi_xt, is_59, gi_mco, pi_mco, gi_mev, pi_mev, gr_59_2, gr_59_3, gi_mgt, pi_mgt, gr_59_5, gr_59_6, gr_59_7, gr_59_8, gi_mtp, pi_mtp, gr_59_10, gr_59_11, gr_59_12, gr_59_13, gr_59_14, gr_59_15, gi_mmy, pi_mmy, gr_59_17, gr_59_18, f_M_isEvent_16, f_M_isEvent_17, h]
  rw [vd_if]
  cases vd n v <;> rfl
theorem M_isGate (h : S.1 59 4 = n32 n) : f_M_isGate fu 59 v (enc S) = some (b32 (vd n v), enc S) := by
  simp only [f_M_isGate, Option.bind_some, is_0, gr_0_0, gr_0_1, gr_0_2, gr_0_3, gr_0_4, gr_0_5, gi_tp, pi_tp, gi_tf, pi_tf, gi_xf, pi_xf, is_1, gr_1_0, gr_1_1, gi_en, pi_en, is_4, gr_4_0, gr_4_1, gr_4_2, gr_4_3, gi_gn, pi_gn, is_9, gr_9_0, gr_9_1, gi_ts, pi_ts, gi_tw, pi_tw, gi_tc, pi_tc, is_40, gr_40_0, is_42, gr_42_0, gr_42_1, gi_dn, pi_dn, is_45, gr_45_0, gr_45_1, gi_xw, pi_xw, gi_xn, pi_xn, gi_xt, pi_xt, is_59, gi_mco, pi_mco, gi_mev, pi_mev, gr_59_2, gr_59_3, gi_mgt, pi_mgt, gr_59_5, gr_59_6, gr_59_7, gr_59_8, gi_mtp, pi_mtp, gr_59_10, gr_59_11, gr_59_12, gr_59_13, gr_59_14, gr_59_15, gi_mmy, pi_mmy, gr_59_17, gr_59_18, f_M_isGate_16, f_M_isGate_17, h]
  rw [vd_if]
  cases vd n v <;> rfl
theorem F_needEvent (h : S.1 1 2 = n32 n) : f_F_needEvent fu 0 v (enc S) = some (if vd n v = true then Sum.inr () else Sum.inl "java/lang/IllegalArgumentException", enc S) := by
  simp only [f_F_needEvent, Option.bind_some, is_0, gr_0_0, gr_0_1, gr_0_2, gr_0_3, gr_0_4, gr_0_5, gi_tp, pi_tp, gi_tf, pi_tf, gi_xf, pi_xf, is_1, gr_1_0, gr_1_1, gi_en, pi_en, is_4, gr_4_0, gr_4_1, gr_4_2, gr_4_3, gi_gn, pi_gn, is_9, gr_9_0, gr_9_1, gi_ts, pi_ts, gi_tw, pi_tw, gi_tc, pi_tc, is_40, gr_40_0, is_42, gr_42_0, gr_42_1, gi_dn, pi_dn, is_45, gr_45_0, gr_45_1, gi_xw, pi_xw, gi_xn, pi_xn, gi_xt, pi_xt, is_59, gi_mco, pi_mco, gi_mev, pi_mev, gr_59_2, gr_59_3, gi_mgt, pi_mgt, gr_59_5, gr_59_6, gr_59_7, gr_59_8, gi_mtp, pi_mtp, gr_59_10, gr_59_11, gr_59_12, gr_59_13, gr_59_14, gr_59_15, gi_mmy, pi_mmy, gr_59_17, gr_59_18, E_has h, b32_0]
  cases vd n v <;> rfl
theorem F_needGate (h : S.1 4 4 = n32 n) : f_F_needGate fu 0 v (enc S) = some (if vd n v = true then Sum.inr () else Sum.inl "java/lang/IllegalArgumentException", enc S) := by
  simp only [f_F_needGate, Option.bind_some, is_0, gr_0_0, gr_0_1, gr_0_2, gr_0_3, gr_0_4, gr_0_5, gi_tp, pi_tp, gi_tf, pi_tf, gi_xf, pi_xf, is_1, gr_1_0, gr_1_1, gi_en, pi_en, is_4, gr_4_0, gr_4_1, gr_4_2, gr_4_3, gi_gn, pi_gn, is_9, gr_9_0, gr_9_1, gi_ts, pi_ts, gi_tw, pi_tw, gi_tc, pi_tc, is_40, gr_40_0, is_42, gr_42_0, gr_42_1, gi_dn, pi_dn, is_45, gr_45_0, gr_45_1, gi_xw, pi_xw, gi_xn, pi_xn, gi_xt, pi_xt, is_59, gi_mco, pi_mco, gi_mev, pi_mev, gr_59_2, gr_59_3, gi_mgt, pi_mgt, gr_59_5, gr_59_6, gr_59_7, gr_59_8, gi_mtp, pi_mtp, gr_59_10, gr_59_11, gr_59_12, gr_59_13, gr_59_14, gr_59_15, gi_mmy, pi_mmy, gr_59_17, gr_59_18, G_has h, b32_0]
  cases vd n v <;> rfl
theorem F_needChance : f_F_needChance fu 0 v (enc S) = some (if vd 17 v = true then Sum.inr () else Sum.inl "java/lang/IllegalArgumentException", enc S) := by
  have e : (v ≤ (16 : Int32)) ↔ ¬ n32 17 ≤ v := by
    rw [i32_not_le, Int32.lt_iff_toInt_lt, Int32.le_iff_toInt_le, n32_toInt (by omega), show (16 : Int32).toInt = 16 from rfl]; omega
  simp only [f_F_needChance, f_F_needChance_10]
  rw [show (if v ≤ (16 : Int32) then some ((Sum.inr () : String ⊕ Unit), enc S) else some (Sum.inl "java/lang/IllegalArgumentException", enc S)) = (if n32 17 ≤ v then some (Sum.inl "java/lang/IllegalArgumentException", enc S) else some (Sum.inr (), enc S)) from by
    by_cases h : n32 17 ≤ v
    · rw [if_pos h, if_neg (by rw [e]; simpa using h)]
    · rw [if_neg h, if_pos (e.mpr h)], vd_if]
  cases vd 17 v <;> rfl
theorem F_forget : f_F_forgetAnswers fu 0 (enc S) = some (enc (sS (sS S 0 7 0) 0 8 0)) := by
  simp only [f_F_forgetAnswers, pz_tf (Or.inl rfl), pz_xf (Or.inl rfl), Option.bind_some]
theorem F_needTop {t : Option Nat} (ht : ∀ k, t = some k → k < 12) (h : S.1 0 6 = (match t with | none => -1 | some t => n32 t)) : f_F_needTop fu 0 (enc S) = some (match t with | none => Sum.inl "java/lang/IllegalStateException" | some _ => Sum.inr (), enc S) := by
  simp only [f_F_needTop, Option.bind_some, is_0, gr_0_0, gr_0_1, gr_0_2, gr_0_3, gr_0_4, gr_0_5, gi_tp, pi_tp, gi_tf, pi_tf, gi_xf, pi_xf, is_1, gr_1_0, gr_1_1, gi_en, pi_en, is_4, gr_4_0, gr_4_1, gr_4_2, gr_4_3, gi_gn, pi_gn, is_9, gr_9_0, gr_9_1, gi_ts, pi_ts, gi_tw, pi_tw, gi_tc, pi_tc, is_40, gr_40_0, is_42, gr_42_0, gr_42_1, gi_dn, pi_dn, is_45, gr_45_0, gr_45_1, gi_xw, pi_xw, gi_xn, pi_xn, gi_xt, pi_xt, is_59, gi_mco, pi_mco, gi_mev, pi_mev, gr_59_2, gr_59_3, gi_mgt, pi_mgt, gr_59_5, gr_59_6, gr_59_7, gr_59_8, gi_mtp, pi_mtp, gr_59_10, gr_59_11, gr_59_12, gr_59_13, gr_59_14, gr_59_15, gi_mmy, pi_mmy, gr_59_17, gr_59_18, h]
  cases t with
  | none => rfl
  | some k => 
    have : ¬ n32 k = -1 := fun e => n32_nn (n := k) (by have := ht k rfl; omega) (by rw [e]; decide)
    simp only [if_neg this]
end
