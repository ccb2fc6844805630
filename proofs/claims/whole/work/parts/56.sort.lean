/-! the model's sort, ended: every gate stands in the order, after what is below it -/
section
variable {fu : Nat} {S : Ws}
theorem ex_min {r : Nat → Nat} {P : Nat → Prop} : ∀ (n g : Nat), r g < n → P g → ∃ g, P g ∧ ∀ k, P k → r g ≤ r k
  | 0, _, h, _ => absurd h (by omega)
  | n + 1, g, h, hg => by
    by_cases hh : ∃ k, P k ∧ r k < r g
    · obtain ⟨k, h1, h2⟩ := hh
      exact ex_min n k (by omega) h1
    · exact ⟨g, hg, fun k hk => Nat.le_of_not_lt (fun q => hh ⟨k, hk, q⟩)⟩
theorem M_sort31 {X : Nat → List Nat} {r : Nat → Nat} {T0 : Ws} {ng : Nat} (hng : ng ≤ 12) (hr : Rk X r) (hN : S.1 59 4 = n32 ng) (B : BR S (fun i h => rc X i (16 + h))) (J0 : SJ S X ng [] T0) (hfu : 200 ≤ fu) : ∃ L T, SJ S X ng L T ∧ L.length = ng ∧ (∀ g, g < ng → g ∈ L) ∧ f_M_sort_31 fu fu 59 0 0 (enc T0) = some (enc T) := by
  obtain ⟨⟨L, T⟩, ⟨h1, h2⟩, m, e⟩ := lp0 (σ := List Nat × Ws) (F := fun n j p => f_M_sort_31 fu n 59 (n32 p.1.length) (n32 j) (enc p.2)) (I := fun j p => SJ S X ng p.1 p.2 ∧ (j ≤ p.1.length ∨ ∀ g, g < ng → g ∈ p.1)) (N := ng) (n := fu) (s := ([], T0)) (by omega) ⟨J0, Or.inl (Nat.le_refl _)⟩ (fun n j p hj hI => by
    obtain ⟨L, T⟩ := p
    obtain ⟨h1, h2⟩ := hI
    dsimp only at h1 h2
    have hle : ¬ n32 ng ≤ n32 j := by rw [n32_le (by omega) (by omega)]; omega
    have hN' : T.1 59 4 = n32 ng := by rw [h1.1.1]; exact hN
    obtain ⟨L', T', a1, a2, a3, a4⟩ := M_sort41 (fu := fu) (S := S) hng hN B h1 hfu (f_M_sort_31 fu n) j
    refine ⟨(L', T'), ⟨a1, ?_⟩, ?_⟩
    · by_cases hall : ∀ g, g < ng → g ∈ L
      · exact Or.inr (fun g hg => a2 g (hall g hg))
      · refine Or.inl ?_
        have hj2 := h2.resolve_right hall
        obtain ⟨g0, hg0⟩ : ∃ g, g < ng ∧ g ∉ L := by
          refine Classical.byContradiction (fun q => hall (fun g hg => Classical.byContradiction (fun q2 => q ⟨g, hg, q2⟩)))
        obtain ⟨g, ⟨hg, hgl⟩, hmin⟩ := ex_min (r := r) (P := fun g => g < ng ∧ g ∉ L) (r g0 + 1) g0 (by omega) hg0
        have hin : g ∈ L' := a3 g hg (fun k hk hrk => Classical.byContradiction (fun q => by
          have := hmin k ⟨hk, q⟩
          have := hr.rc hrk
          omega))
        have := List.Nodup.length_le_of_subset (l₁ := g :: L) (l₂ := L') (List.nodup_cons.mpr ⟨hgl, h1.2.2.2.1⟩) (fun x hx => by
          rcases List.mem_cons.mp hx with h | h
          · rw [h]; exact hin
          · exact a2 x h)
        rw [List.length_cons] at this
        show j + 1 ≤ L'.length
        omega
    · show f_M_sort_31 fu (n + 1) 59 (n32 L.length) (n32 j) (enc T) = f_M_sort_31 fu n 59 (n32 L'.length) (n32 (j + 1)) (enc T')
      simp only [f_M_sort_31, Option.bind_some, is_0, gr_0_0, gr_0_1, gr_0_2, gr_0_3, gr_0_4, gr_0_5, gi_tp, pi_tp, gi_tf, pi_tf, gi_xf, pi_xf, is_1, gr_1_0, gr_1_1, gi_en, pi_en, is_4, gr_4_0, gr_4_1, gr_4_2, gr_4_3, gi_gn, pi_gn, is_9, gr_9_0, gr_9_1, gi_ts, pi_ts, gi_tw, pi_tw, gi_tc, pi_tc, is_40, gr_40_0, is_42, gr_42_0, gr_42_1, gi_dn, pi_dn, is_45, gr_45_0, gr_45_1, gi_xw, pi_xw, gi_xn, pi_xn, gi_xt, pi_xt, is_59, gi_mco, pi_mco, gi_mev, pi_mev, gr_59_2, gr_59_3, gi_mgt, pi_mgt, gr_59_5, gr_59_6, gr_59_7, gr_59_8, gi_mtp, pi_mtp, gr_59_10, gr_59_11, gr_59_12, gr_59_13, gr_59_14, gr_59_15, gi_mmy, pi_mmy, gr_59_17, gr_59_18, hN', if_neg hle]
      exact a4)
  dsimp only at h1 h2
  have hall : ∀ g, g < ng → g ∈ L := by
    rcases h2 with h2 | h2
    · intro g hg
      refine Classical.byContradiction (fun q => ?_)
      have := h1.len hg q
      omega
    · exact h2
  have hlen : L.length = ng := by
    have g1 := List.Nodup.length_le_of_subset (l₁ := L) (l₂ := List.range ng) h1.2.2.2.1 (fun x hx => List.mem_range.mpr (h1.2.2.2.2.1 x hx))
    have g2 := List.Nodup.length_le_of_subset (l₁ := List.range ng) (l₂ := L) List.nodup_range (fun x hx => hall x (List.mem_range.mp hx))
    rw [List.length_range] at g1 g2; omega
  refine ⟨L, T, h1, hlen, hall, Eq.trans e ?_⟩
  have hN' : T.1 59 4 = n32 ng := by rw [h1.1.1]; exact hN
  simp only [f_M_sort_31, Option.bind_some, is_0, gr_0_0, gr_0_1, gr_0_2, gr_0_3, gr_0_4, gr_0_5, gi_tp, pi_tp, gi_tf, pi_tf, gi_xf, pi_xf, is_1, gr_1_0, gr_1_1, gi_en, pi_en, is_4, gr_4_0, gr_4_1, gr_4_2, gr_4_3, gi_gn, pi_gn, is_9, gr_9_0, gr_9_1, gi_ts, pi_ts, gi_tw, pi_tw, gi_tc, pi_tc, is_40, gr_40_0, is_42, gr_42_0, gr_42_1, gi_dn, pi_dn, is_45, gr_45_0, gr_45_1, gi_xw, pi_xw, gi_xn, pi_xn, gi_xt, pi_xt, is_59, gi_mco, pi_mco, gi_mev, pi_mev, gr_59_2, gr_59_3, gi_mgt, pi_mgt, gr_59_5, gr_59_6, gr_59_7, gr_59_8, gi_mtp, pi_mtp, gr_59_10, gr_59_11, gr_59_12, gr_59_13, gr_59_14, gr_59_15, gi_mmy, pi_mmy, gr_59_17, gr_59_18, hN', if_pos (show n32 ng ≤ n32 ng from (n32_le (by omega) (by omega)).mpr (Nat.le_refl _))]
/-- places that sort may change: 66, 67, 68 -/
def FrS (S T : Ws) : Prop := T.1 = S.1 ∧ T.2.2 = S.2.2 ∧ ∀ q, q ≠ 66 → q ≠ 67 → q ≠ 68 → T.2.1 q = S.2.1 q
theorem M_sort {X : Nat → List Nat} {r : Nat → Nat} {ng : Nat} (hng : ng ≤ 12) (hr : Rk X r) (hN : S.1 59 4 = n32 ng) (hl : ∀ g, (X g).length ≤ 4) (hX : ∀ g c, c ∈ X g → g < ng ∧ (c < 16 ∨ 16 ≤ c ∧ c < 16 + ng)) (K : KM S X) (hfu : 200 ≤ fu) : ∃ (L : List Nat) (T : Ws), FrS S T ∧ L.length = ng ∧ (∀ g, g ∈ L ↔ g < ng) ∧ (∀ (i : Nat) (hi : i < L.length), T.2.1 68 i = n32 (L[i])) ∧ L.Nodup ∧ (∀ (i : Nat) (hi : i < L.length) (k : Nat), 16 + k ∈ X (L[i]) → k ∈ L.take i) ∧ f_M_sort fu 59 (enc S) = some (enc T) := by
  obtain ⟨U, u1, u2, u3⟩ := M_fb (fu := fu) (S := S) (X := X) (ng := ng) hng hN hl hX K hfu
  have hNU : U.1 59 4 = n32 ng := by rw [u1.1]; exact hN
  obtain ⟨V, ⟨v1, v2⟩, m, e⟩ := lp0 (F := fun n j V => f_M_sort_8 fu n 59 0 (n32 j) (enc V)) (I := fun j V => (V.1 = U.1 ∧ V.2.2 = U.2.2 ∧ ∀ q, q ≠ 67 → q ≠ 68 → V.2.1 q = U.2.1 q) ∧ ∀ i, i < j → V.2.1 67 i = 0) (N := ng) (n := fu) (s := U) (by omega) ⟨⟨rfl, rfl, fun _ _ _ => rfl⟩, fun i hi => absurd hi (by omega)⟩ (fun n j V hj hI => by
    obtain ⟨⟨f1, f2, f3⟩, h2⟩ := hI
    have hle : ¬ n32 ng ≤ n32 j := by rw [n32_le (by omega) (by omega)]; omega
    have hN' : V.1 59 4 = n32 ng := by rw [f1]; exact hNU
    refine ⟨sI V 67 j 0, ⟨⟨f1, f2, fun q h67 h68 => by rw [sI2, if_neg h67]; exact f3 q h67 h68⟩, fun i hi => ?_⟩, ?_⟩
    · rw [sI2, if_pos rfl, upd_at]
      by_cases hij : i = j
      · rw [if_pos hij]
      · rw [if_neg hij]; exact h2 i (by omega)
    · simp only [f_M_sort_8, Option.bind_some, is_0, gr_0_0, gr_0_1, gr_0_2, gr_0_3, gr_0_4, gr_0_5, gi_tp, pi_tp, gi_tf, pi_tf, gi_xf, pi_xf, is_1, gr_1_0, gr_1_1, gi_en, pi_en, is_4, gr_4_0, gr_4_1, gr_4_2, gr_4_3, gi_gn, pi_gn, is_9, gr_9_0, gr_9_1, gi_ts, pi_ts, gi_tw, pi_tw, gi_tc, pi_tc, is_40, gr_40_0, is_42, gr_42_0, gr_42_1, gi_dn, pi_dn, is_45, gr_45_0, gr_45_1, gi_xw, pi_xw, gi_xn, pi_xn, gi_xt, pi_xt, is_59, gi_mco, pi_mco, gi_mev, pi_mev, gr_59_2, gr_59_3, gi_mgt, pi_mgt, gr_59_5, gr_59_6, gr_59_7, gr_59_8, gi_mtp, pi_mtp, gr_59_10, gr_59_11, gr_59_12, gr_59_13, gr_59_14, gr_59_15, gi_mmy, pi_mmy, gr_59_17, gr_59_18, hN', if_neg hle, wr_mrd (show j < 12 by omega), nar_0, nl_add])
  have J0 : SJ U X ng [] V := ⟨v1, fun k hk => by rw [v2 k hk]; rfl, fun i hi => absurd hi (by simp), List.nodup_nil, fun g hg => absurd hg (by simp), fun i hi => absurd hi (by simp)⟩
  obtain ⟨L, T, j1, j2, j3, j4⟩ := M_sort31 (fu := fu) (S := U) hng hr hNU u2 J0 hfu
  refine ⟨L, T, ⟨j1.1.1.trans u1.1, j1.1.2.1.trans u1.2.1, fun q h66 h67 h68 => (j1.1.2.2 q h67 h68).trans (u1.2.2 q h66)⟩, j2, fun g => ⟨j1.2.2.2.2.1 g, j3 g⟩, j1.2.2.1, j1.2.2.2.1, fun i hi k hk => j1.2.2.2.2.2 i hi k (rc_kid hk) (by have := (hX _ _ hk).2; omega), ?_⟩
  simp only [f_M_sort, Option.bind_some, is_0, gr_0_0, gr_0_1, gr_0_2, gr_0_3, gr_0_4, gr_0_5, gi_tp, pi_tp, gi_tf, pi_tf, gi_xf, pi_xf, is_1, gr_1_0, gr_1_1, gi_en, pi_en, is_4, gr_4_0, gr_4_1, gr_4_2, gr_4_3, gi_gn, pi_gn, is_9, gr_9_0, gr_9_1, gi_ts, pi_ts, gi_tw, pi_tw, gi_tc, pi_tc, is_40, gr_40_0, is_42, gr_42_0, gr_42_1, gi_dn, pi_dn, is_45, gr_45_0, gr_45_1, gi_xw, pi_xw, gi_xn, pi_xn, gi_xt, pi_xt, is_59, gi_mco, pi_mco, gi_mev, pi_mev, gr_59_2, gr_59_3, gi_mgt, pi_mgt, gr_59_5, gr_59_6, gr_59_7, gr_59_8, gi_mtp, pi_mtp, gr_59_10, gr_59_11, gr_59_12, gr_59_13, gr_59_14, gr_59_15, gi_mmy, pi_mmy, gr_59_17, gr_59_18, u3]
  refine Eq.trans e ?_
  have hN' : V.1 59 4 = n32 ng := by rw [v1.1]; exact hNU
  simp only [f_M_sort_8, Option.bind_some, is_0, gr_0_0, gr_0_1, gr_0_2, gr_0_3, gr_0_4, gr_0_5, gi_tp, pi_tp, gi_tf, pi_tf, gi_xf, pi_xf, is_1, gr_1_0, gr_1_1, gi_en, pi_en, is_4, gr_4_0, gr_4_1, gr_4_2, gr_4_3, gi_gn, pi_gn, is_9, gr_9_0, gr_9_1, gi_ts, pi_ts, gi_tw, pi_tw, gi_tc, pi_tc, is_40, gr_40_0, is_42, gr_42_0, gr_42_1, gi_dn, pi_dn, is_45, gr_45_0, gr_45_1, gi_xw, pi_xw, gi_xn, pi_xn, gi_xt, pi_xt, is_59, gi_mco, pi_mco, gi_mev, pi_mev, gr_59_2, gr_59_3, gi_mgt, pi_mgt, gr_59_5, gr_59_6, gr_59_7, gr_59_8, gi_mtp, pi_mtp, gr_59_10, gr_59_11, gr_59_12, gr_59_13, gr_59_14, gr_59_15, gi_mmy, pi_mmy, gr_59_17, gr_59_18, hN', if_pos (show n32 ng ≤ n32 ng from (n32_le (by omega) (by omega)).mpr (Nat.le_refl _))]
  exact j4
end
