/-! the model's gates: children, what is below -/
section
variable {fu : Nat} {S : Ws}
theorem take_mem {l : List Nat} {j c : Nat} (hj : j < l.length) : c ∈ l.take (j + 1) ↔ (c ∈ l.take j ∨ c = l[j]) := by
  rw [List.take_succ_eq_append_getElem hj, List.mem_append, List.mem_singleton]
theorem M_hasChild {l : List Nat} {g c : Nat} (hg : g < 12) (hl : l.length ≤ 4) (hc : c < 2147483648) (hlt : ∀ y, y ∈ l → y < 2147483648) (h1 : S.2.1 64 g = n32 l.length) (h2 : ∀ (j : Nat) (hj : j < l.length), S.2.1 65 (4 * g + j) = n32 (l[j])) (hfu : 100 ≤ fu) : f_M_hasChild fu 59 (n32 g) (n32 c) (enc S) = some (b32 (decide (c ∈ l)), enc S) := by
  obtain ⟨b, hb, m, e⟩ := lp0 (F := fun n j b => f_M_hasChild_7 fu n 59 (n32 g) (n32 c) (b32 b) (n32 (4 * g + j)) (enc S)) (I := fun j b => b = decide (c ∈ l.take j)) (N := l.length) (n := fu) (s := false) (by omega) (by simp) (fun n j b hj hI => by
    refine ⟨decide (c ∈ l.take (j + 1)), rfl, ?_⟩
    have hle : ¬ n32 (4 * g + l.length) ≤ n32 (4 * g + j) := by rw [n32_le (by omega) (by omega)]; omega
    simp only [f_M_hasChild_7, f_M_hasChild_37, f_M_hasChild_42, Option.bind_some, is_0, gr_0_0, gr_0_1, gr_0_2, gr_0_3, gr_0_4, gr_0_5, gi_tp, pi_tp, gi_tf, pi_tf, gi_xf, pi_xf, is_1, gr_1_0, gr_1_1, gi_en, pi_en, is_4, gr_4_0, gr_4_1, gr_4_2, gr_4_3, gi_gn, pi_gn, is_9, gr_9_0, gr_9_1, gi_ts, pi_ts, gi_tw, pi_tw, gi_tc, pi_tc, is_40, gr_40_0, is_42, gr_42_0, gr_42_1, gi_dn, pi_dn, is_45, gr_45_0, gr_45_1, gi_xw, pi_xw, gi_xn, pi_xn, gi_xt, pi_xt, is_59, gi_mco, pi_mco, gi_mev, pi_mev, gr_59_2, gr_59_3, gi_mgt, pi_mgt, gr_59_5, gr_59_6, gr_59_7, gr_59_8, gi_mtp, pi_mtp, gr_59_10, gr_59_11, gr_59_12, gr_59_13, gr_59_14, gr_59_15, gi_mmy, pi_mmy, gr_59_17, gr_59_18, rd_mct hg, h1, ln_mul, n32_add, if_neg hle, b32_0, rd_mki (show 4 * g + j < 48 by omega), h2 j hj, n32_inj (hlt _ (List.getElem_mem hj)) hc, nl_add, Nat.add_assoc]
    subst hI
    by_cases h0 : c ∈ l.take j
    · rw [if_neg (by simp [h0]), decide_eq_true (take_mem hj |>.mpr (Or.inl h0))]; rfl
    · rw [if_pos (by simp [h0])]
      by_cases h3 : l[j] = c
      · rw [if_pos h3, decide_eq_true ((take_mem hj).mpr (Or.inr h3.symm))]; rfl
      · rw [if_neg h3, decide_eq_false (fun h => by rcases (take_mem hj).mp h with h | h; exact h0 h; exact h3 h.symm)]; rfl)
  have e0 : f_M_hasChild fu 59 (n32 g) (n32 c) (enc S) = f_M_hasChild_7 fu fu 59 (n32 g) (n32 c) (b32 false) (n32 (4 * g + 0)) (enc S) := by
    simp only [f_M_hasChild, ln_mul]; rfl
  rw [e0]
  refine Eq.trans e ?_
  rw [List.take_length] at hb
  subst hb
  simp only [f_M_hasChild_7, Option.bind_some, is_0, gr_0_0, gr_0_1, gr_0_2, gr_0_3, gr_0_4, gr_0_5, gi_tp, pi_tp, gi_tf, pi_tf, gi_xf, pi_xf, is_1, gr_1_0, gr_1_1, gi_en, pi_en, is_4, gr_4_0, gr_4_1, gr_4_2, gr_4_3, gi_gn, pi_gn, is_9, gr_9_0, gr_9_1, gi_ts, pi_ts, gi_tw, pi_tw, gi_tc, pi_tc, is_40, gr_40_0, is_42, gr_42_0, gr_42_1, gi_dn, pi_dn, is_45, gr_45_0, gr_45_1, gi_xw, pi_xw, gi_xn, pi_xn, gi_xt, pi_xt, is_59, gi_mco, pi_mco, gi_mev, pi_mev, gr_59_2, gr_59_3, gi_mgt, pi_mgt, gr_59_5, gr_59_6, gr_59_7, gr_59_8, gi_mtp, pi_mtp, gr_59_10, gr_59_11, gr_59_12, gr_59_13, gr_59_14, gr_59_15, gi_mmy, pi_mmy, gr_59_17, gr_59_18, rd_mct hg, h1, ln_mul, n32_add, if_pos (show n32 (4 * g + l.length) ≤ n32 (4 * g + l.length) from (n32_le (by omega) (by omega)).mpr (Nat.le_refl _)), if_pos (b32_ok _)]
def Fr66 (S T : Ws) : Prop := T.1 = S.1 ∧ T.2.2 = S.2.2 ∧ ∀ q, q ≠ 66 → T.2.1 q = S.2.1 q
theorem Fr66.rf : Fr66 S S := ⟨rfl, rfl, fun _ _ => rfl⟩
theorem Fr66.tr {T U : Ws} (h : Fr66 S T) (g : Fr66 T U) : Fr66 S U := ⟨g.1.trans h.1, g.2.1.trans h.2.1, fun q hq => (g.2.2 q hq).trans (h.2.2 q hq)⟩
theorem Fr66.st {T : Ws} {i : Nat} {x : Int32} (h : Fr66 S T) : Fr66 S (sI T 66 i x) := ⟨h.1, h.2.1, fun q hq => by rw [sI2, if_neg hq]; exact h.2.2 q hq⟩
/-- Warshall: one pass over the square -/
theorem M_fb105 {X : Nat → List Nat} {b : Nat} (hb : b < 12) (k95 : Nat → Int32 → List va_E → Option (List va_E)) (H : BR S (pw X b)) (hfu : 200 ≤ fu) : ∃ T, Fr66 S T ∧ BR T (pw X (b + 1)) ∧ f_M_findBelow_105 fu k95 fu 59 (n32 b) 0 (enc S) = k95 59 (n32 (b + 1)) (enc T) := by
  obtain ⟨T, ⟨h1, h2⟩, m, e⟩ := lp0 (F := fun n j T => f_M_findBelow_105 fu k95 n 59 (n32 b) (n32 j) (enc T)) (I := fun j T => Fr66 S T ∧ BR T (fun i h => if 12 * i + h < j then pw X (b + 1) i h else pw X b i h)) (N := 144) (n := fu) (s := S) (by omega) ⟨Fr66.rf, H.im (fun i _ h _ => by (try dsimp only); rw [if_neg (by omega)])⟩ (fun n j T hj hI => by
    obtain ⟨h1, h2⟩ := hI
    have hi : j / 12 < 12 := by omega
    have hh : j % 12 < 12 := by omega
    have ej : 12 * (j / 12) + j % 12 = j := by omega
    have a1 := h2 (j / 12) hi (j % 12) hh
    have a2 := h2 (j / 12) hi b hb
    have a3 := h2 b hb (j % 12) hh
    dsimp only at a1 a2 a3
    rw [ej, if_neg (by omega)] at a1
    have r2 : (if 12 * (j / 12) + b < j then pw X (b + 1) (j / 12) b else pw X b (j / 12) b) ↔ pw X b (j / 12) b := by
      split
      · exact ⟨fun h => h.elim id (fun h => h.1), Or.inl⟩
      · exact Iff.rfl
    have r3 : (if 12 * b + j % 12 < j then pw X (b + 1) b (j % 12) else pw X b b (j % 12)) ↔ pw X b b (j % 12) := by
      split
      · exact ⟨fun h => h.elim id (fun h => h.2), Or.inl⟩
      · exact Iff.rfl
    rw [r2] at a2
    rw [r3] at a3
    have key : ∀ x : Int32, (x = 0 ∨ x = 1) → (x = 1 ↔ pw X (b + 1) (j / 12) (j % 12)) → BR (sI T 66 j x) (fun i h => if 12 * i + h < j + 1 then pw X (b + 1) i h else pw X b i h) := fun x hx hx1 => by
      have := BR.set (T := T) (Q := fun i h => if 12 * i + h < j + 1 then pw X (b + 1) i h else pw X b i h) h2 hi hh hx (by (try dsimp only); rw [ej, if_pos (by omega)]; exact hx1) (fun i hi' h hh' hne => by
        (try dsimp only)
        by_cases hlt : 12 * i + h < j
        · rw [if_pos hlt, if_pos (by omega)]
        · rw [if_neg hlt, if_neg (by omega)])
      rw [ej] at this; exact this
    have hle : ¬ (144 : Int32) ≤ n32 j := by rw [ln_le (by omega) (by omega)]; omega
    have ed : n32 j - n32 (j / 12) * (12 : Int32) = n32 (j % 12) := by
      rw [nl_mul, n32_sub (by omega)]; congr 1; omega
    have c1 : 12 * (j / 12) + b < 144 := by omega
    have c2 : 12 * b + j % 12 < 144 := by omega
    have unf : f_M_findBelow_105 fu k95 (n + 1) 59 (n32 b) (n32 j) (enc T) = (if T.2.1 66 j = 0 then (if T.2.1 66 (12 * (j / 12) + b) = 0 then f_M_findBelow_105 fu k95 n 59 (n32 b) (n32 (j + 1)) (enc (sI T 66 j 0)) else (if T.2.1 66 (12 * b + j % 12) = 0 then f_M_findBelow_105 fu k95 n 59 (n32 b) (n32 (j + 1)) (enc (sI T 66 j 0)) else f_M_findBelow_105 fu k95 n 59 (n32 b) (n32 (j + 1)) (enc (sI T 66 j 1)))) else f_M_findBelow_105 fu k95 n 59 (n32 b) (n32 (j + 1)) (enc (sI T 66 j 1))) := by
      simp only [f_M_findBelow_105, f_M_findBelow_160, f_M_findBelow_164, f_M_findBelow_165, Option.bind_some, is_0, gr_0_0, gr_0_1, gr_0_2, gr_0_3, gr_0_4, gr_0_5, gi_tp, pi_tp, gi_tf, pi_tf, gi_xf, pi_xf, is_1, gr_1_0, gr_1_1, gi_en, pi_en, is_4, gr_4_0, gr_4_1, gr_4_2, gr_4_3, gi_gn, pi_gn, is_9, gr_9_0, gr_9_1, gi_ts, pi_ts, gi_tw, pi_tw, gi_tc, pi_tc, is_40, gr_40_0, is_42, gr_42_0, gr_42_1, gi_dn, pi_dn, is_45, gr_45_0, gr_45_1, gi_xw, pi_xw, gi_xn, pi_xn, gi_xt, pi_xt, is_59, gi_mco, pi_mco, gi_mev, pi_mev, gr_59_2, gr_59_3, gi_mgt, pi_mgt, gr_59_5, gr_59_6, gr_59_7, gr_59_8, gi_mtp, pi_mtp, gr_59_10, gr_59_11, gr_59_12, gr_59_13, gr_59_14, gr_59_15, gi_mmy, pi_mmy, gr_59_17, gr_59_18, if_neg hle, ed, nl_div (show j < 2147483648 by omega) (show 12 < 2147483648 by omega) (show 12 ≠ 0 by omega), ln_mul, n32_add, rd_mbl c1, rd_mbl c2, rd_mbl hj, wr_mbl hj, nar_0, nar_1, nl_add]
    by_cases z1 : T.2.1 66 j = 0
    · have n1 : ¬ pw X b (j / 12) (j % 12) := fun h => by have := a1.2.mpr h; rw [z1] at this; exact absurd this (by decide)
      by_cases z2 : T.2.1 66 (12 * (j / 12) + b) = 0
      · have n2 : ¬ pw X b (j / 12) b := fun h => by have := a2.2.mpr h; rw [z2] at this; exact absurd this (by decide)
        refine ⟨sI T 66 j 0, ⟨h1.st, key 0 (Or.inl rfl) ⟨fun h => absurd h (by decide), fun h => ?_⟩⟩, ?_⟩
        · rcases h with h | h
          · exact absurd h n1
          · exact absurd h.1 n2
        · show f_M_findBelow_105 fu k95 (n + 1) 59 (n32 b) (n32 j) (enc T) = _
          rw [unf, if_pos z1, if_pos z2]
      · by_cases z3 : T.2.1 66 (12 * b + j % 12) = 0
        · have n3 : ¬ pw X b b (j % 12) := fun h => by have := a3.2.mpr h; rw [z3] at this; exact absurd this (by decide)
          refine ⟨sI T 66 j 0, ⟨h1.st, key 0 (Or.inl rfl) ⟨fun h => absurd h (by decide), fun h => ?_⟩⟩, ?_⟩
          · rcases h with h | h
            · exact absurd h n1
            · exact absurd h.2 n3
          · show f_M_findBelow_105 fu k95 (n + 1) 59 (n32 b) (n32 j) (enc T) = _
            rw [unf, if_pos z1, if_neg z2, if_pos z3]
        · refine ⟨sI T 66 j 1, ⟨h1.st, key 1 (Or.inr rfl) ⟨fun _ => Or.inr ⟨a2.2.mp (a2.1.resolve_left z2), a3.2.mp (a3.1.resolve_left z3)⟩, fun _ => rfl⟩⟩, ?_⟩
          show f_M_findBelow_105 fu k95 (n + 1) 59 (n32 b) (n32 j) (enc T) = _
          rw [unf, if_pos z1, if_neg z2, if_neg z3]
    · refine ⟨sI T 66 j 1, ⟨h1.st, key 1 (Or.inr rfl) ⟨fun _ => Or.inl (a1.2.mp (a1.1.resolve_left z1)), fun _ => rfl⟩⟩, ?_⟩
      show f_M_findBelow_105 fu k95 (n + 1) 59 (n32 b) (n32 j) (enc T) = _
      rw [unf, if_neg z1])
  refine ⟨T, h1, h2.im (fun i hi h hh => by (try dsimp only); rw [if_pos (by omega)]), ?_⟩
  refine Eq.trans e ?_
  simp only [f_M_findBelow_105, ln_le (show 144 < 2147483648 by omega) (show 144 < 2147483648 by omega), Nat.le_refl, if_true, nl_add]
end
