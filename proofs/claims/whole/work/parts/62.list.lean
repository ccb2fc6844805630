/-! the listed children of a gate -/
section
variable {fu : Nat} {S : Ws}
def Ls (x : Int32) (j : Nat) : List Nat := (List.range j).filter (bt x)
theorem Ls_s (x : Int32) (j : Nat) : Ls x (j + 1) = Ls x j ++ (if bt x j = true then [j] else []) := by
  unfold Ls
  rw [List.range_succ, List.filter_append]
  cases h : bt x j <;> simp [h]
theorem Ls_le (x : Int32) : ∀ (m j : Nat), (Ls x j).length ≤ (Ls x (j + m)).length
  | 0, _ => Nat.le_refl _
  | m + 1, j => by
    have := Ls_le x m j
    rw [show j + (m + 1) = j + m + 1 from rfl, Ls_s, List.length_append]; omega
theorem Ls_eq (x : Int32) : ∀ (m j : Nat), (Ls x (j + m)).length ≤ (Ls x j).length → Ls x (j + m) = Ls x j
  | 0, _, _ => rfl
  | m + 1, j, h => by
    rw [show j + (m + 1) = j + m + 1 from rfl, Ls_s, List.length_append] at h
    have := Ls_le x m j
    have ih := Ls_eq x m j (by omega)
    rw [show j + (m + 1) = j + m + 1 from rfl, Ls_s, ih]
    rw [ih] at h
    cases hb : bt x (j + m) with
    | false => simp
    | true => rw [hb] at h; simp at h; omega
theorem T_list4 {x : Int32} (hx : (Ls x 28).length ≤ 4) : ∀ (m n j : Nat) (T : Ws), j + m = 28 → m < n → (∀ (i : Nat) (hi : i < (Ls x j).length), T.2.1 39 i = n32 ((Ls x j)[i])) → ∃ T', f_T_listInputs_4 fu n 9 x (n32 (Ls x j).length) (n32 j) (enc T) = some (n32 (Ls x 28).length, enc T') ∧ (T'.1 = T.1 ∧ T'.2.2 = T.2.2 ∧ ∀ q, q ≠ 39 → T'.2.1 q = T.2.1 q) ∧ ∀ (i : Nat) (hi : i < (Ls x 28).length), T'.2.1 39 i = n32 ((Ls x 28)[i])
  | m, 0, _, _, _, h, _ => absurd h (by omega)
  | 0, n + 1, j, T, hj, _, hI => by
    obtain rfl : j = 28 := by omega
    refine ⟨T, ?_, ⟨rfl, rfl, fun _ _ => rfl⟩, hI⟩
    simp only [f_T_listInputs_4, f_T_listInputs_39, ln_le (show 28 < 2147483648 by omega) (show 28 < 2147483648 by omega), Nat.le_refl, if_true]
  | m + 1, n + 1, j, T, hj, hn, hI => by
    have hlj : (Ls x j).length ≤ 4 := by have := Ls_le x (m + 1) j; rw [hj] at this; omega
    have h28 : ¬ (28 : Int32) ≤ n32 j := by rw [ln_le (by omega) (by omega)]; omega
    by_cases h4 : 4 ≤ (Ls x j).length
    · have e : Ls x 28 = Ls x j := by
        have := Ls_eq x (m + 1) j (by rw [hj]; omega)
        rw [hj] at this; exact this
      refine ⟨T, ?_, ⟨rfl, rfl, fun _ _ => rfl⟩, ?_⟩
      · simp only [f_T_listInputs_4, f_T_listInputs_39, if_neg h28, ln_le (show (Ls x j).length < 2147483648 by omega) (show 4 < 2147483648 by omega), if_pos h4, e]
      · rw [e]; exact hI
    · have h4' : ¬ (4 : Int32) ≤ n32 (Ls x j).length := by rw [ln_le (by omega) (by omega)]; omega
      cases hb : bt x j with
      | false =>
        have es : Ls x (j + 1) = Ls x j := by rw [Ls_s, hb]; simp
        obtain ⟨T', a1, a2, a3⟩ := T_list4 hx m n (j + 1) T (by omega) (by omega) (by rw [es]; exact hI)
        refine ⟨T', ?_, a2, a3⟩
        rw [es] at a1
        simp only [f_T_listInputs_4, f_T_listInputs_33, if_neg h28, if_neg h4', ts_0 (show j < 32 by omega), hb, if_true, nl_add]
        exact a1
      | true =>
        have es : Ls x (j + 1) = Ls x j ++ [j] := by rw [Ls_s, hb]; simp
        have el : (Ls x (j + 1)).length = (Ls x j).length + 1 := by rw [es, List.length_append]; rfl
        obtain ⟨T', a1, a2, a3⟩ := T_list4 hx m n (j + 1) (sI T 39 (Ls x j).length (n32 j)) (by omega) (by omega) (fun i hi => by
          rw [sI2, if_pos rfl, upd_at]
          simp only [es]
          by_cases hil : i = (Ls x j).length
          · subst hil
            rw [if_pos rfl, List.getElem_append_right (Nat.le_refl _)]; simp
          · rw [if_neg hil, List.getElem_append_left (by omega)]
            exact hI i (by omega))
        refine ⟨T', ?_, ⟨a2.1, a2.2.1, fun q hq => by rw [a2.2.2 q hq, sI2, if_neg hq]⟩, a3⟩
        rw [el] at a1
        simp only [f_T_listInputs_4, f_T_listInputs_33, Option.bind_some, is_0, gr_0_0, gr_0_1, gr_0_2, gr_0_3, gr_0_4, gr_0_5, gi_tp, pi_tp, gi_tf, pi_tf, gi_xf, pi_xf, is_1, gr_1_0, gr_1_1, gi_en, pi_en, is_4, gr_4_0, gr_4_1, gr_4_2, gr_4_3, gi_gn, pi_gn, is_9, gr_9_0, gr_9_1, gi_ts, pi_ts, gi_tw, pi_tw, gi_tc, pi_tc, is_40, gr_40_0, is_42, gr_42_0, gr_42_1, gi_dn, pi_dn, is_45, gr_45_0, gr_45_1, gi_xw, pi_xw, gi_xn, pi_xn, gi_xt, pi_xt, is_59, gi_mco, pi_mco, gi_mev, pi_mev, gr_59_2, gr_59_3, gi_mgt, pi_mgt, gr_59_5, gr_59_6, gr_59_7, gr_59_8, gi_mtp, pi_mtp, gr_59_10, gr_59_11, gr_59_12, gr_59_13, gr_59_14, gr_59_15, gi_mmy, pi_mmy, gr_59_17, gr_59_18, if_neg h28, if_neg h4', ts_0 (show j < 32 by omega), hb, Bool.true_eq_false, if_false, wr_inp (show (Ls x j).length < 4 by omega), nl_add]
        exact a1
end
