/-! the model's sort: the order -/
section
variable {fu : Nat} {S : Ws}
/-- the order so far -/
def SJ (S : Ws) (X : Nat → List Nat) (ng : Nat) (L : List Nat) (T : Ws) : Prop := (T.1 = S.1 ∧ T.2.2 = S.2.2 ∧ ∀ q, q ≠ 67 → q ≠ 68 → T.2.1 q = S.2.1 q) ∧ (∀ k, k < ng → T.2.1 67 k = b32 (decide (k ∈ L))) ∧ (∀ (i : Nat) (hi : i < L.length), T.2.1 68 i = n32 (L[i])) ∧ L.Nodup ∧ (∀ g, g ∈ L → g < ng) ∧ (∀ (i : Nat) (hi : i < L.length) (k : Nat), rc X (L[i]) (16 + k) → k < ng → k ∈ L.take i)
theorem SJ.len {X : Nat → List Nat} {ng : Nat} {L : List Nat} {T : Ws} (h : SJ S X ng L T) {g : Nat} (hg : g < ng) (hn : g ∉ L) : L.length < ng := by
  have := List.Nodup.length_le_of_subset (l₁ := g :: L) (l₂ := List.range ng) (List.nodup_cons.mpr ⟨hn, h.2.2.2.1⟩) (fun x hx => by
    rw [List.mem_range]
    rcases List.mem_cons.mp hx with h1 | h1
    · omega
    · exact h.2.2.2.2.1 x h1)
  rw [List.length_cons, List.length_range] at this; omega
theorem SJ.add {X : Nat → List Nat} {ng : Nat} {L : List Nat} {T : Ws} (h : SJ S X ng L T) {g : Nat} (hg : g < ng) (hn : g ∉ L) (hb : ∀ k, k < ng → rc X g (16 + k) → k ∈ L) : SJ S X ng (L ++ [g]) (sI (sI T 67 g 1) 68 L.length (n32 g)) := by
  obtain ⟨⟨f1, f2, f3⟩, h2, h3, h4, h5, h6⟩ := h
  refine ⟨⟨f1, f2, fun q h67 h68 => ?_⟩, fun k hk => ?_, fun i hi => ?_, ?_, fun x hx => ?_, fun i hi k hr hk => ?_⟩
  · rw [sI2, if_neg h68, sI2, if_neg h67]; exact f3 q h67 h68
  · rw [sI2, if_neg (by decide), sI2, if_pos rfl, upd_at]
    by_cases hkg : k = g
    · subst hkg
      rw [if_pos rfl, decide_eq_true (by simp)]; rfl
    · rw [if_neg hkg, h2 k hk]
      by_cases hkl : k ∈ L
      · rw [decide_eq_true hkl, decide_eq_true (by simp [hkl])]
      · rw [decide_eq_false hkl, decide_eq_false (by simp [hkl, hkg])]
  · rw [sI2, if_pos rfl, upd_at]
    rw [List.length_append] at hi
    by_cases hil : i = L.length
    · subst hil
      rw [if_pos rfl, List.getElem_append_right (Nat.le_refl _)]; simp
    · have hi' : i < L.length := by simp at hi; omega
      rw [if_neg hil, List.getElem_append_left hi', sI2, if_neg (by decide)]
      exact h3 i hi'
  · rw [List.nodup_append]
    refine ⟨h4, by simp, fun a ha b hb e => ?_⟩
    rw [List.mem_singleton] at hb
    exact hn (hb ▸ e ▸ ha)
  · rcases List.mem_append.mp hx with h | h
    · exact h5 x h
    · rw [List.mem_singleton] at h; omega
  · rw [List.length_append] at hi
    by_cases hil : i = L.length
    · subst hil
      rw [List.getElem_append_right (Nat.le_refl _)] at hr
      simp at hr
      rw [List.take_left']
      · exact hb k hk hr
      · rfl
    · have hi' : i < L.length := by simp at hi; omega
      rw [List.getElem_append_left hi'] at hr
      rw [List.take_append_of_le_length (by omega)]
      exact h6 i hi' k hr hk
theorem M_sort41 {X : Nat → List Nat} {L0 : List Nat} {T0 : Ws} {ng : Nat} (hng : ng ≤ 12) (hN : S.1 59 4 = n32 ng) (B : BR S (fun i h => rc X i (16 + h))) (J0 : SJ S X ng L0 T0) (hfu : 200 ≤ fu) (k31 : Nat → Int32 → Int32 → List va_E → Option (List va_E)) (r : Nat) : ∃ L T, SJ S X ng L T ∧ (∀ g, g ∈ L0 → g ∈ L) ∧ (∀ g, g < ng → (∀ k, k < ng → rc X g (16 + k) → k ∈ L0) → g ∈ L) ∧ f_M_sort_41 fu k31 fu 59 (n32 L0.length) (n32 r) 0 (enc T0) = k31 59 (n32 L.length) (n32 (r + 1)) (enc T) := by
  obtain ⟨⟨L, T⟩, ⟨h1, h2, h3⟩, m, e⟩ := lp0 (σ := List Nat × Ws) (F := fun n j p => f_M_sort_41 fu k31 n 59 (n32 p.1.length) (n32 r) (n32 j) (enc p.2)) (I := fun j p => SJ S X ng p.1 p.2 ∧ (∀ g, g ∈ L0 → g ∈ p.1) ∧ (∀ g, g < j → (∀ k, k < ng → rc X g (16 + k) → k ∈ L0) → g ∈ p.1)) (N := ng) (n := fu) (s := (L0, T0)) (by omega) ⟨J0, fun _ h => h, fun g h => absurd h (by omega)⟩ (fun n j p hj hI => by
    obtain ⟨L, T⟩ := p
    obtain ⟨h1, h2, h3⟩ := hI
    dsimp only at h1 h2 h3
    have hle : ¬ n32 ng ≤ n32 j := by rw [n32_le (by omega) (by omega)]; omega
    have hN' : T.1 59 4 = n32 ng := by rw [h1.1.1]; exact hN
    have BT : BR T (fun i h => rc X i (16 + h)) := fun i hi h hh => by rw [h1.1.2.2 66 (by omega) (by omega)]; exact B i hi h hh
    obtain ⟨b, hb, eb⟩ := M_sort63 (fu := fu) (S := T) (X := X) (L := L) (ng := ng) (g := j) (len := L.length) hng hj hN' BT h1.2.1 hfu k31 (f_M_sort_41 fu k31 n) (n32 r) (decide (j ∉ L)) (fun h => by have := h1.len hj (of_decide_eq_true h); omega)
    have eF : f_M_sort_41 fu k31 (n + 1) 59 (n32 L.length) (n32 r) (n32 j) (enc T) = f_M_sort_63 fu k31 (f_M_sort_41 fu k31 n) 59 (n32 L.length) (n32 r) (n32 j) (b32 (decide (j ∉ L))) (enc T) := by
      simp only [f_M_sort_41, Option.bind_some, is_0, gr_0_0, gr_0_1, gr_0_2, gr_0_3, gr_0_4, gr_0_5, gi_tp, pi_tp, gi_tf, pi_tf, gi_xf, pi_xf, is_1, gr_1_0, gr_1_1, gi_en, pi_en, is_4, gr_4_0, gr_4_1, gr_4_2, gr_4_3, gi_gn, pi_gn, is_9, gr_9_0, gr_9_1, gi_ts, pi_ts, gi_tw, pi_tw, gi_tc, pi_tc, is_40, gr_40_0, is_42, gr_42_0, gr_42_1, gi_dn, pi_dn, is_45, gr_45_0, gr_45_1, gi_xw, pi_xw, gi_xn, pi_xn, gi_xt, pi_xt, is_59, gi_mco, pi_mco, gi_mev, pi_mev, gr_59_2, gr_59_3, gi_mgt, pi_mgt, gr_59_5, gr_59_6, gr_59_7, gr_59_8, gi_mtp, pi_mtp, gr_59_10, gr_59_11, gr_59_12, gr_59_13, gr_59_14, gr_59_15, gi_mmy, pi_mmy, gr_59_17, gr_59_18, hN', if_neg hle, rd_mrd (show j < 12 by omega), h1.2.1 j hj, b32_0]
      by_cases hjl : j ∈ L
      · rw [if_neg (by rw [decide_eq_true hjl]; decide), decide_eq_false (fun q => q hjl)]; rfl
      · rw [if_pos (decide_eq_false hjl), decide_eq_true hjl]; rfl
    cases hbb : b with
    | true =>
      have hy := hb.mp hbb
      have hjl : j ∉ L := of_decide_eq_true hy.1
      refine ⟨(L ++ [j], sI (sI T 67 j 1) 68 L.length (n32 j)), ⟨h1.add hj hjl hy.2, fun g hg => List.mem_append_left _ (h2 g hg), fun g hg hq => ?_⟩, ?_⟩
      · by_cases hgj : g = j
        · subst hgj; simp
        · exact List.mem_append_left _ (h3 g (by omega) hq)
      · show f_M_sort_41 fu k31 (n + 1) 59 (n32 L.length) (n32 r) (n32 j) (enc T) = f_M_sort_41 fu k31 n 59 (n32 (L ++ [j]).length) (n32 r) (n32 (j + 1)) _
        rw [eF, eb, if_pos hbb, List.length_append]; rfl
    | false =>
      refine ⟨(L, T), ⟨h1, h2, fun g hg hq => ?_⟩, ?_⟩
      · by_cases hgj : g = j
        · subst hgj
          by_cases hgl : g ∈ L
          · exact hgl
          · have := hb.mpr ⟨decide_eq_true hgl, fun k hk hr => h2 k (hq k hk hr)⟩
            rw [hbb] at this; cases this
        · exact h3 g (by omega) hq
      · show f_M_sort_41 fu k31 (n + 1) 59 (n32 L.length) (n32 r) (n32 j) (enc T) = _
        rw [eF, eb, if_neg (by rw [hbb]; decide)])
  refine ⟨L, T, h1, h2, h3, Eq.trans e ?_⟩
  have hN' : T.1 59 4 = n32 ng := by rw [h1.1.1]; exact hN
  simp only [f_M_sort_41, Option.bind_some, is_0, gr_0_0, gr_0_1, gr_0_2, gr_0_3, gr_0_4, gr_0_5, gi_tp, pi_tp, gi_tf, pi_tf, gi_xf, pi_xf, is_1, gr_1_0, gr_1_1, gi_en, pi_en, is_4, gr_4_0, gr_4_1, gr_4_2, gr_4_3, gi_gn, pi_gn, is_9, gr_9_0, gr_9_1, gi_ts, pi_ts, gi_tw, pi_tw, gi_tc, pi_tc, is_40, gr_40_0, is_42, gr_42_0, gr_42_1, gi_dn, pi_dn, is_45, gr_45_0, gr_45_1, gi_xw, pi_xw, gi_xn, pi_xn, gi_xt, pi_xt, is_59, gi_mco, pi_mco, gi_mev, pi_mev, gr_59_2, gr_59_3, gi_mgt, pi_mgt, gr_59_5, gr_59_6, gr_59_7, gr_59_8, gi_mtp, pi_mtp, gr_59_10, gr_59_11, gr_59_12, gr_59_13, gr_59_14, gr_59_15, gi_mmy, pi_mmy, gr_59_17, gr_59_18, hN', if_pos (show n32 ng ≤ n32 ng from (n32_le (by omega) (by omega)).mpr (Nat.le_refl _)), nl_add]
end
