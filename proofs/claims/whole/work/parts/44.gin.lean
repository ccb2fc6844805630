/-! the desk's gates: children, what is below -/
section
variable {fu : Nat} {S : Ws}
theorem cnt_len {p : Nat → Bool} {l : List Nat} (hn : l.Nodup) (hl : ∀ c, c ∈ l → c < 32) (h : ∀ y, y < 32 → (p y = true ↔ y ∈ l)) : (List.range 32).countP p = l.length := by
  rw [List.countP_eq_length_filter]
  refine List.Perm.length_eq ((List.perm_ext_iff_of_nodup (List.Nodup.sublist List.filter_sublist List.nodup_range) hn).mpr fun y => ?_)
  rw [List.mem_filter, List.mem_range]
  constructor
  · rintro ⟨h1, h2⟩; exact (h y h1).mp h2
  · intro hy; exact ⟨hl y hy, (h y (hl y hy)).mpr hy⟩
theorem G_wb {R : Nat → Nat → Prop} (hb : ∀ g, g < 12 → ∀ y, y < 32 → (bt (S.2.1 8 g) y = true ↔ R g y)) {c : Nat} (hc : c < 28) : ∃ x, f_G_withBelow fu 4 (n32 c) (enc S) = some (x, enc S) ∧ ∀ y, y < 32 → (bt x y = true ↔ (y = c ∨ ∃ h, c = 16 + h ∧ R h y)) := by
  by_cases h16 : c < 16
  · refine ⟨(1 : Int32) <<< (n32 c &&& 31) ||| 0, ?_, fun y hy => ?_⟩
    · simp only [f_G_withBelow, f_G_withBelow_22, nl_lt (show c < 2147483648 by omega) (show 16 < 2147483648 by omega), if_pos h16]
    · rw [bt_or, bt_0, bt_shl (by omega) hy, Bool.or_false, decide_eq_true_eq]
      constructor
      · exact Or.inl
      · rintro (h | ⟨h, e, _⟩)
        · exact h
        · omega
  · refine ⟨(1 : Int32) <<< (n32 c &&& 31) ||| S.2.1 8 (c - 16), ?_, fun y hy => ?_⟩
    · simp only [f_G_withBelow, f_G_withBelow_22, nl_lt (show c < 2147483648 by omega) (show 16 < 2147483648 by omega), if_neg h16, Option.bind_some, is_0, gr_0_0, gr_0_1, gr_0_2, gr_0_3, gr_0_4, gr_0_5, gi_tp, pi_tp, gi_tf, pi_tf, gi_xf, pi_xf, is_1, gr_1_0, gr_1_1, gi_en, pi_en, is_4, gr_4_0, gr_4_1, gr_4_2, gr_4_3, gi_gn, pi_gn, is_9, gr_9_0, gr_9_1, gi_ts, pi_ts, gi_tw, pi_tw, gi_tc, pi_tc, is_40, gr_40_0, is_42, gr_42_0, gr_42_1, gi_dn, pi_dn, is_45, gr_45_0, gr_45_1, gi_xw, pi_xw, gi_xn, pi_xn, gi_xt, pi_xt, is_59, gi_mco, pi_mco, gi_mev, pi_mev, gr_59_2, gr_59_3, gi_mgt, pi_mgt, gr_59_5, gr_59_6, gr_59_7, gr_59_8, gi_mtp, pi_mtp, gr_59_10, gr_59_11, gr_59_12, gr_59_13, gr_59_14, gr_59_15, gi_mmy, pi_mmy, gr_59_17, gr_59_18, nl_sub (show 16 ≤ c by omega), rd_gb (show c - 16 < 12 by omega)]
    · rw [bt_or, bt_shl (by omega) hy, Bool.or_eq_true, decide_eq_true_eq, hb (c - 16) (by omega) y hy]
      constructor
      · rintro (h | h)
        · exact Or.inl h
        · exact Or.inr ⟨c - 16, by omega, h⟩
      · rintro (h | ⟨h, e, h2⟩)
        · exact Or.inl h
        · refine Or.inr ?_
          rw [show c - 16 = h from by omega]; exact h2
theorem G_isChild {g c : Nat} (hg : g < 12) (hc : c < 32) : f_G_isChild fu 4 (n32 g) (n32 c) (enc S) = some (b32 (bt (S.2.1 7 g) c), enc S) := by
  simp only [f_G_isChild, f_G_isChild_18, Option.bind_some, is_0, gr_0_0, gr_0_1, gr_0_2, gr_0_3, gr_0_4, gr_0_5, gi_tp, pi_tp, gi_tf, pi_tf, gi_xf, pi_xf, is_1, gr_1_0, gr_1_1, gi_en, pi_en, is_4, gr_4_0, gr_4_1, gr_4_2, gr_4_3, gi_gn, pi_gn, is_9, gr_9_0, gr_9_1, gi_ts, pi_ts, gi_tw, pi_tw, gi_tc, pi_tc, is_40, gr_40_0, is_42, gr_42_0, gr_42_1, gi_dn, pi_dn, is_45, gr_45_0, gr_45_1, gi_xw, pi_xw, gi_xn, pi_xn, gi_xt, pi_xt, is_59, gi_mco, pi_mco, gi_mev, pi_mev, gr_59_2, gr_59_3, gi_mgt, pi_mgt, gr_59_5, gr_59_6, gr_59_7, gr_59_8, gi_mtp, pi_mtp, gr_59_10, gr_59_11, gr_59_12, gr_59_13, gr_59_14, gr_59_15, gi_mmy, pi_mmy, gr_59_17, gr_59_18, rd_gc hg, ts_0 hc]
  cases bt (S.2.1 7 g) c <;> rfl
theorem G_isFull {g m : Nat} {k : Nat} (hg : g < 12) (hk : k < 2147483648) (hK : S.2.1 5 g = n32 k) (hm : (List.range 32).countP (bt (S.2.1 7 g)) = m) : f_G_isFull fu 4 (n32 g) (enc S) = some (b32 (decide ((if k = 4 then 1 else 4) ≤ m)), enc S) := by
  have hm32 : m ≤ 32 := by have := List.countP_le_length (p := bt (S.2.1 7 g)) (l := List.range 32); rw [List.length_range] at this; omega
  simp only [f_G_isFull, f_G_isFull_15, f_G_isFull_34, Option.bind_some, is_0, gr_0_0, gr_0_1, gr_0_2, gr_0_3, gr_0_4, gr_0_5, gi_tp, pi_tp, gi_tf, pi_tf, gi_xf, pi_xf, is_1, gr_1_0, gr_1_1, gi_en, pi_en, is_4, gr_4_0, gr_4_1, gr_4_2, gr_4_3, gi_gn, pi_gn, is_9, gr_9_0, gr_9_1, gi_ts, pi_ts, gi_tw, pi_tw, gi_tc, pi_tc, is_40, gr_40_0, is_42, gr_42_0, gr_42_1, gi_dn, pi_dn, is_45, gr_45_0, gr_45_1, gi_xw, pi_xw, gi_xn, pi_xn, gi_xt, pi_xt, is_59, gi_mco, pi_mco, gi_mev, pi_mev, gr_59_2, gr_59_3, gi_mgt, pi_mgt, gr_59_5, gr_59_6, gr_59_7, gr_59_8, gi_mtp, pi_mtp, gr_59_10, gr_59_11, gr_59_12, gr_59_13, gr_59_14, gr_59_15, gi_mmy, pi_mmy, gr_59_17, gr_59_18, rd_gk hg, hK, rd_gc hg, JI_bc, hm, nl_eq hk (show 4 < 2147483648 by omega), nl_lt (show m < 2147483648 by omega) (show 4 < 2147483648 by omega), nl_lt (show m < 2147483648 by omega) (show 1 < 2147483648 by omega)]
  by_cases h4 : k = 4
  · simp only [if_pos h4]
    by_cases h1 : m < 1
    · rw [if_pos h1, decide_eq_false (by omega)]; rfl
    · rw [if_neg h1, decide_eq_true (by omega)]; rfl
  · simp only [if_neg h4]
    by_cases h1 : m < 4
    · rw [if_pos h1, decide_eq_false (by omega)]; rfl
    · rw [if_neg h1, decide_eq_true (by omega)]; rfl
theorem G_wouldLoop {R : Nat → Nat → Prop} (hb : ∀ g, g < 12 → ∀ y, y < 32 → (bt (S.2.1 8 g) y = true ↔ R g y)) {g c : Nat} (hg : g < 12) (hc : c < 28) : ∃ b : Bool, f_G_wouldLoop fu 4 (n32 g) (n32 c) (enc S) = some (b32 b, enc S) ∧ (b = true ↔ (16 + g = c ∨ ∃ h, c = 16 + h ∧ R h (16 + g))) := by
  obtain ⟨x, e, h⟩ := G_wb (fu := fu) hb hc
  refine ⟨bt x (16 + g), ?_, h (16 + g) (by omega)⟩
  simp only [f_G_wouldLoop, f_G_wouldLoop_20, Option.bind_some, is_0, gr_0_0, gr_0_1, gr_0_2, gr_0_3, gr_0_4, gr_0_5, gi_tp, pi_tp, gi_tf, pi_tf, gi_xf, pi_xf, is_1, gr_1_0, gr_1_1, gi_en, pi_en, is_4, gr_4_0, gr_4_1, gr_4_2, gr_4_3, gi_gn, pi_gn, is_9, gr_9_0, gr_9_1, gi_ts, pi_ts, gi_tw, pi_tw, gi_tc, pi_tc, is_40, gr_40_0, is_42, gr_42_0, gr_42_1, gi_dn, pi_dn, is_45, gr_45_0, gr_45_1, gi_xw, pi_xw, gi_xn, pi_xn, gi_xt, pi_xt, is_59, gi_mco, pi_mco, gi_mev, pi_mev, gr_59_2, gr_59_3, gi_mgt, pi_mgt, gr_59_5, gr_59_6, gr_59_7, gr_59_8, gi_mtp, pi_mtp, gr_59_10, gr_59_11, gr_59_12, gr_59_13, gr_59_14, gr_59_15, gi_mmy, pi_mmy, gr_59_17, gr_59_18, e, ln_add, ts_0 (show 16 + g < 32 by omega)]
  cases bt x (16 + g) <;> rfl
/-- the loop of join -/
theorem G_join21 {ng g : Nat} (hng : ng ≤ 12) (hN : S.1 4 4 = n32 ng) (hg : g < ng) (gained : Int32) (hfu : 100 ≤ fu) : ∃ T, f_G_join_21 fu fu 4 (n32 g) gained 0 (enc S) = some (n32 ((List.range 32).countP (bt (S.2.1 7 g))), enc T) ∧ T.1 = S.1 ∧ T.2.2 = S.2.2 ∧ (∀ q, q ≠ 8 → T.2.1 q = S.2.1 q) ∧ ∀ i, T.2.1 8 i = if i < ng ∧ (i = g ∨ bt (S.2.1 8 i) (16 + g) = true) then S.2.1 8 i ||| gained else S.2.1 8 i := by
  obtain ⟨T, ⟨h1, h2, h3, h4⟩, m, e⟩ := lp0 (F := fun n j T => f_G_join_21 fu n 4 (n32 g) gained (n32 j) (enc T)) (I := fun j T => T.1 = S.1 ∧ T.2.2 = S.2.2 ∧ (∀ q, q ≠ 8 → T.2.1 q = S.2.1 q) ∧ ∀ i, T.2.1 8 i = if i < j ∧ (i = g ∨ bt (S.2.1 8 i) (16 + g) = true) then S.2.1 8 i ||| gained else S.2.1 8 i) (N := ng) (n := fu) (s := S) (by omega) ⟨rfl, rfl, fun _ _ => rfl, fun i => by rw [if_neg (by omega)]⟩ (fun n j T hj hI => by
    obtain ⟨h1, h2, h3, h4⟩ := hI
    have hj12 : j < 12 := by omega
    have hTj : T.2.1 8 j = S.2.1 8 j := by rw [h4, if_neg (by omega)]
    have hN' : T.1 4 4 = n32 ng := by rw [h1]; exact hN
    have hle : ¬ n32 ng ≤ n32 j := by rw [n32_le (by omega) (by omega)]; omega
    obtain ⟨x, ex, hx⟩ := G_wb (fu := fu) (S := T) (R := fun g y => bt (T.2.1 8 g) y = true) (fun _ _ _ _ => Iff.rfl) (c := 16 + j) (by omega)
    have hb : bt x (16 + g) = true ↔ (j = g ∨ bt (S.2.1 8 j) (16 + g) = true) := by
      rw [hx (16 + g) (by omega)]
      constructor
      · rintro (h | ⟨h, e, h'⟩)
        · exact Or.inl (by omega)
        · obtain rfl : h = j := by omega
          rw [hTj] at h'; exact Or.inr h'
      · rintro (h | h)
        · exact Or.inl (by omega)
        · exact Or.inr ⟨j, rfl, by rw [hTj]; exact h⟩
    cases hc : bt x (16 + g) with
    | false =>
      refine ⟨T, ⟨h1, h2, h3, fun i => ?_⟩, ?_⟩
      · rw [h4]
        by_cases hi : i = j
        · subst hi
          rw [if_neg (by omega), if_neg (fun h => by rw [hb.mpr h.2] at hc; cases hc)]
        · simp only [show (i < j + 1) = (i < j) from propext (by omega)]
      · simp only [f_G_join_21, f_G_join_60, Option.bind_some, is_0, gr_0_0, gr_0_1, gr_0_2, gr_0_3, gr_0_4, gr_0_5, gi_tp, pi_tp, gi_tf, pi_tf, gi_xf, pi_xf, is_1, gr_1_0, gr_1_1, gi_en, pi_en, is_4, gr_4_0, gr_4_1, gr_4_2, gr_4_3, gi_gn, pi_gn, is_9, gr_9_0, gr_9_1, gi_ts, pi_ts, gi_tw, pi_tw, gi_tc, pi_tc, is_40, gr_40_0, is_42, gr_42_0, gr_42_1, gi_dn, pi_dn, is_45, gr_45_0, gr_45_1, gi_xw, pi_xw, gi_xn, pi_xn, gi_xt, pi_xt, is_59, gi_mco, pi_mco, gi_mev, pi_mev, gr_59_2, gr_59_3, gi_mgt, pi_mgt, gr_59_5, gr_59_6, gr_59_7, gr_59_8, gi_mtp, pi_mtp, gr_59_10, gr_59_11, gr_59_12, gr_59_13, gr_59_14, gr_59_15, gi_mmy, pi_mmy, gr_59_17, gr_59_18, hN', if_neg hle, ln_add, ex, ts_0 (show 16 + g < 32 by omega), hc, if_true, nl_add]
    | true =>
      refine ⟨sI T 8 j (T.2.1 8 j ||| gained), ⟨h1, h2, fun q hq => ?_, fun i => ?_⟩, ?_⟩
      · rw [sI2, if_neg hq]; exact h3 q hq
      · rw [sI2, if_pos rfl, upd_at]
        by_cases hi : i = j
        · subst hi
          rw [if_pos rfl, hTj, if_pos ⟨by omega, hb.mp hc⟩]
        · rw [if_neg hi, h4]
          simp only [show (i < j + 1) = (i < j) from propext (by omega)]
      · simp only [f_G_join_21, f_G_join_60, Option.bind_some, is_0, gr_0_0, gr_0_1, gr_0_2, gr_0_3, gr_0_4, gr_0_5, gi_tp, pi_tp, gi_tf, pi_tf, gi_xf, pi_xf, is_1, gr_1_0, gr_1_1, gi_en, pi_en, is_4, gr_4_0, gr_4_1, gr_4_2, gr_4_3, gi_gn, pi_gn, is_9, gr_9_0, gr_9_1, gi_ts, pi_ts, gi_tw, pi_tw, gi_tc, pi_tc, is_40, gr_40_0, is_42, gr_42_0, gr_42_1, gi_dn, pi_dn, is_45, gr_45_0, gr_45_1, gi_xw, pi_xw, gi_xn, pi_xn, gi_xt, pi_xt, is_59, gi_mco, pi_mco, gi_mev, pi_mev, gr_59_2, gr_59_3, gi_mgt, pi_mgt, gr_59_5, gr_59_6, gr_59_7, gr_59_8, gi_mtp, pi_mtp, gr_59_10, gr_59_11, gr_59_12, gr_59_13, gr_59_14, gr_59_15, gi_mmy, pi_mmy, gr_59_17, gr_59_18, hN', if_neg hle, ln_add, ex, ts_0 (show 16 + g < 32 by omega), hc, Bool.true_eq_false, if_false, rd_gb hj12, wr_gb hj12, nl_add])
  refine ⟨T, ?_, h1, h2, h3, h4⟩
  have hN' : T.1 4 4 = n32 ng := by rw [h1]; exact hN
  refine Eq.trans e ?_
  simp only [f_G_join_21, Option.bind_some, is_0, gr_0_0, gr_0_1, gr_0_2, gr_0_3, gr_0_4, gr_0_5, gi_tp, pi_tp, gi_tf, pi_tf, gi_xf, pi_xf, is_1, gr_1_0, gr_1_1, gi_en, pi_en, is_4, gr_4_0, gr_4_1, gr_4_2, gr_4_3, gi_gn, pi_gn, is_9, gr_9_0, gr_9_1, gi_ts, pi_ts, gi_tw, pi_tw, gi_tc, pi_tc, is_40, gr_40_0, is_42, gr_42_0, gr_42_1, gi_dn, pi_dn, is_45, gr_45_0, gr_45_1, gi_xw, pi_xw, gi_xn, pi_xn, gi_xt, pi_xt, is_59, gi_mco, pi_mco, gi_mev, pi_mev, gr_59_2, gr_59_3, gi_mgt, pi_mgt, gr_59_5, gr_59_6, gr_59_7, gr_59_8, gi_mtp, pi_mtp, gr_59_10, gr_59_11, gr_59_12, gr_59_13, gr_59_14, gr_59_15, gi_mmy, pi_mmy, gr_59_17, gr_59_18, hN', if_pos (show n32 ng ≤ n32 ng from (n32_le (by omega) (by omega)).mpr (Nat.le_refl _)), rd_gc (show g < 12 by omega), h3 7 (by omega), JI_bc]
end
