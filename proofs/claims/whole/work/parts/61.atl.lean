/-! at least so many of the children -/
section
variable {fu : Nat} {S : Ws}
theorem T_atl {L : List Nat} {w need : Nat} (hL : InL S L) (hw : w < 16) (hn : need ≤ 4) (hfu : 200 ≤ fu) : ∃ y, f_T_atLeastWord fu 9 (n32 need) (n32 L.length) (n32 w) (enc S) = some (y, enc S) ∧ ∀ b, b < 64 → lb y b = decide (need ≤ L.countP (fun c => lb (S.2.2 (11 + c) w) b)) := by
  have hl := hL.1
  obtain ⟨⟨o1, o2, o3, o4⟩, hy, m, e⟩ := lp0 (σ := Int64 × Int64 × Int64 × Int64) (F := fun n j p => f_T_atLeastWord_15 fu n 9 (n32 need) (n32 L.length) (n32 w) p.1 p.2.1 p.2.2.1 p.2.2.2 (n32 j) (enc S)) (I := fun j p => ∀ b, b < 64 → lb p.1 b = decide (1 ≤ (L.take j).countP (fun c => lb (S.2.2 (11 + c) w) b)) ∧ lb p.2.1 b = decide (2 ≤ (L.take j).countP (fun c => lb (S.2.2 (11 + c) w) b)) ∧ lb p.2.2.1 b = decide (3 ≤ (L.take j).countP (fun c => lb (S.2.2 (11 + c) w) b)) ∧ lb p.2.2.2 b = decide (4 ≤ (L.take j).countP (fun c => lb (S.2.2 (11 + c) w) b))) (N := L.length) (n := fu) (s := ((0 : Int64), (0 : Int64), (0 : Int64), (0 : Int64))) (by omega) (fun b hb => by simp [lb_0]) (fun n j p hj hI => by
    obtain ⟨o1, o2, o3, o4⟩ := p
    have hle : ¬ n32 L.length ≤ n32 j := by rw [n32_le (by omega) (by omega)]; omega
    have hc := hL.2.1 _ (List.getElem_mem hj)
    refine ⟨(o1 ||| S.2.2 (11 + L[j]) w, o2 ||| (o1 &&& S.2.2 (11 + L[j]) w), o3 ||| (o2 &&& S.2.2 (11 + L[j]) w), o4 ||| (o3 &&& S.2.2 (11 + L[j]) w)), fun b hb => ?_, ?_⟩
    · obtain ⟨i1, i2, i3, i4⟩ := hI b hb
      dsimp only at i1 i2 i3 i4 ⊢
      simp only [lb_or, lb_and, i1, i2, i3, i4, take_cnt hj]
      generalize (L.take j).countP (fun c => lb (S.2.2 (11 + c) w) b) = c
      cases hq : lb (S.2.2 (11 + L[j]) w) b with
      | false => simp
      | true =>
        simp only [Bool.or_true, Bool.and_true, if_true]
        refine ⟨(decide_eq_true (by omega)).symm, ?_, ?_, ?_⟩
        · rw [← Bool.decide_or]; congr 1; exact propext (by omega)
        · rw [← Bool.decide_or]; congr 1; exact propext (by omega)
        · rw [← Bool.decide_or]; congr 1; exact propext (by omega)
    · simp only [f_T_atLeastWord_15, Option.bind_some, is_0, gr_0_0, gr_0_1, gr_0_2, gr_0_3, gr_0_4, gr_0_5, gi_tp, pi_tp, gi_tf, pi_tf, gi_xf, pi_xf, is_1, gr_1_0, gr_1_1, gi_en, pi_en, is_4, gr_4_0, gr_4_1, gr_4_2, gr_4_3, gi_gn, pi_gn, is_9, gr_9_0, gr_9_1, gi_ts, pi_ts, gi_tw, pi_tw, gi_tc, pi_tc, is_40, gr_40_0, is_42, gr_42_0, gr_42_1, gi_dn, pi_dn, is_45, gr_45_0, gr_45_1, gi_xw, pi_xw, gi_xn, pi_xn, gi_xt, pi_xt, is_59, gi_mco, pi_mco, gi_mev, pi_mev, gr_59_2, gr_59_3, gi_mgt, pi_mgt, gr_59_5, gr_59_6, gr_59_7, gr_59_8, gi_mtp, pi_mtp, gr_59_10, gr_59_11, gr_59_12, gr_59_13, gr_59_14, gr_59_15, gi_mmy, pi_mmy, gr_59_17, gr_59_18, if_neg hle, rd_inp (show j < 4 by omega), hL.2.2 j hj, ra_rw hc, rd_rw hc hw, nl_add])
  rw [List.take_length] at hy
  dsimp only at hy
  have e0 : f_T_atLeastWord fu 9 (n32 need) (n32 L.length) (n32 w) (enc S) = f_T_atLeastWord_15 fu (m + 1) 9 (n32 need) (n32 L.length) (n32 w) o1 o2 o3 o4 (n32 L.length) (enc S) := e
  rw [e0]
  simp only [f_T_atLeastWord_15, if_pos (show n32 L.length ≤ n32 L.length from (n32_le (by omega) (by omega)).mpr (Nat.le_refl _))]
  rcases (show need = 0 ∨ need = 1 ∨ need = 2 ∨ need = 3 ∨ need = 4 from by omega) with rfl | rfl | rfl | rfl | rfl
  · exact ⟨-1, rfl, fun b hb => by rw [lb_m1 b hb]; simp⟩
  · exact ⟨o1, rfl, fun b hb => (hy b hb).1⟩
  · exact ⟨o2, rfl, fun b hb => (hy b hb).2.1⟩
  · exact ⟨o3, rfl, fun b hb => (hy b hb).2.2.1⟩
  · exact ⟨o4, rfl, fun b hb => (hy b hb).2.2.2⟩
end
