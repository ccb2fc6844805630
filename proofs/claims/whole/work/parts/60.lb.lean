/-! bits of longs; words of children -/
section
variable {fu : Nat} {S : Ws}
theorem lb_ext {x y : Int64} (h : ∀ k, k < 64 → lb x k = lb y k) : x = y := by
  apply Int64.toBitVec_inj.mp
  apply BitVec.eq_of_getLsbD_eq
  intro i hi; exact h i hi
theorem lb_or (x y : Int64) (k : Nat) : lb (x ||| y) k = (lb x k || lb y k) := by simp [lb]
theorem lb_and (x y : Int64) (k : Nat) : lb (x &&& y) k = (lb x k && lb y k) := by simp [lb]
theorem lb_xor (x y : Int64) (k : Nat) : lb (x ^^^ y) k = (lb x k ^^ lb y k) := by simp [lb]
theorem lb_0 (k : Nat) : lb 0 k = false := by simp [lb]
theorem lb_m1 (k : Nat) (h : k < 64) : lb (-1) k = true := by
  have : (-1 : Int64).toBitVec = BitVec.allOnes 64 := by decide
  unfold lb; rw [this, BitVec.getLsbD_allOnes]; simpa using h
/-- the listed inputs -/
def InL (S : Ws) (L : List Nat) : Prop := L.length ≤ 4 ∧ (∀ c, c ∈ L → c < 28) ∧ ∀ (j : Nat) (hj : j < L.length), S.2.1 39 j = n32 (L[j])
theorem T_odd {L : List Nat} {w : Nat} (hL : InL S L) (hw : w < 16) (hfu : 200 ≤ fu) : ∃ y, f_T_oddWord fu 9 (n32 L.length) (n32 w) (enc S) = some (y, enc S) ∧ ∀ b, b < 64 → lb y b = decide (L.countP (fun c => lb (S.2.2 (11 + c) w) b) % 2 = 1) := by
  have hl := hL.1
  obtain ⟨y, hy, m, e⟩ := lp0 (F := fun n j y => f_T_oddWord_5 fu n 9 (n32 L.length) (n32 w) y (n32 j) (enc S)) (I := fun j y => ∀ b, b < 64 → lb y b = decide ((L.take j).countP (fun c => lb (S.2.2 (11 + c) w) b) % 2 = 1)) (N := L.length) (n := fu) (s := (0 : Int64)) (by omega) (fun b hb => by rw [lb_0]; simp) (fun n j y hj hI => by
    have hle : ¬ n32 L.length ≤ n32 j := by rw [n32_le (by omega) (by omega)]; omega
    have hc := hL.2.1 _ (List.getElem_mem hj)
    refine ⟨y ^^^ S.2.2 (11 + L[j]) w, fun b hb => ?_, ?_⟩
    · rw [lb_xor, hI b hb, take_cnt hj]
      cases hq : lb (S.2.2 (11 + L[j]) w) b with
      | false => simp [hq]
      | true =>
        simp only [if_true]
        by_cases h2 : (L.take j).countP (fun c => lb (S.2.2 (11 + c) w) b) % 2 = 1
        · rw [decide_eq_true h2, decide_eq_false (by omega)]; rfl
        · rw [decide_eq_false h2, decide_eq_true (by omega)]; rfl
    · simp only [f_T_oddWord_5, Option.bind_some, is_0, gr_0_0, gr_0_1, gr_0_2, gr_0_3, gr_0_4, gr_0_5, gi_tp, pi_tp, gi_tf, pi_tf, gi_xf, pi_xf, is_1, gr_1_0, gr_1_1, gi_en, pi_en, is_4, gr_4_0, gr_4_1, gr_4_2, gr_4_3, gi_gn, pi_gn, is_9, gr_9_0, gr_9_1, gi_ts, pi_ts, gi_tw, pi_tw, gi_tc, pi_tc, is_40, gr_40_0, is_42, gr_42_0, gr_42_1, gi_dn, pi_dn, is_45, gr_45_0, gr_45_1, gi_xw, pi_xw, gi_xn, pi_xn, gi_xt, pi_xt, is_59, gi_mco, pi_mco, gi_mev, pi_mev, gr_59_2, gr_59_3, gi_mgt, pi_mgt, gr_59_5, gr_59_6, gr_59_7, gr_59_8, gi_mtp, pi_mtp, gr_59_10, gr_59_11, gr_59_12, gr_59_13, gr_59_14, gr_59_15, gi_mmy, pi_mmy, gr_59_17, gr_59_18, if_neg hle, rd_inp (show j < 4 by omega), hL.2.2 j hj, ra_rw hc, rd_rw hc hw, nl_add])
  rw [List.take_length] at hy
  refine ⟨y, ?_, hy⟩
  simp only [f_T_oddWord]
  refine Eq.trans e ?_
  simp only [f_T_oddWord_5, if_pos (show n32 L.length ≤ n32 L.length from (n32_le (by omega) (by omega)).mpr (Nat.le_refl _))]
end
