/-! the model's findBelow -/
section
variable {fu : Nat} {S : Ws}
theorem M_fb95 {X : Nat → List Nat} {ng : Nat} (hng : ng ≤ 12) (hN : S.1 59 4 = n32 ng) (H : BR S (pw X 0)) (hfu : 200 ≤ fu) : ∃ T, Fr66 S T ∧ BR T (pw X ng) ∧ f_M_findBelow_95 fu fu 59 0 (enc S) = some (enc T) := by
  obtain ⟨T, ⟨h1, h2⟩, m, e⟩ := lp0 (F := fun n j T => f_M_findBelow_95 fu n 59 (n32 j) (enc T)) (I := fun j T => Fr66 S T ∧ BR T (pw X j)) (N := ng) (n := fu) (s := S) (by omega) ⟨Fr66.rf, H⟩ (fun n j T hj hI => by
    obtain ⟨h1, h2⟩ := hI
    have hN' : T.1 59 4 = n32 ng := by rw [h1.1]; exact hN
    have hle : ¬ n32 ng ≤ n32 j := by rw [n32_le (by omega) (by omega)]; omega
    obtain ⟨U, u1, u2, u3⟩ := M_fb105 (fu := fu) (S := T) (X := X) (b := j) (by omega) (f_M_findBelow_95 fu n) h2 hfu
    refine ⟨U, ⟨h1.tr u1, u2⟩, ?_⟩
    simp only [f_M_findBelow_95, Option.bind_some, is_0, gr_0_0, gr_0_1, gr_0_2, gr_0_3, gr_0_4, gr_0_5, gi_tp, pi_tp, gi_tf, pi_tf, gi_xf, pi_xf, is_1, gr_1_0, gr_1_1, gi_en, pi_en, is_4, gr_4_0, gr_4_1, gr_4_2, gr_4_3, gi_gn, pi_gn, is_9, gr_9_0, gr_9_1, gi_ts, pi_ts, gi_tw, pi_tw, gi_tc, pi_tc, is_40, gr_40_0, is_42, gr_42_0, gr_42_1, gi_dn, pi_dn, is_45, gr_45_0, gr_45_1, gi_xw, pi_xw, gi_xn, pi_xn, gi_xt, pi_xt, is_59, gi_mco, pi_mco, gi_mev, pi_mev, gr_59_2, gr_59_3, gi_mgt, pi_mgt, gr_59_5, gr_59_6, gr_59_7, gr_59_8, gi_mtp, pi_mtp, gr_59_10, gr_59_11, gr_59_12, gr_59_13, gr_59_14, gr_59_15, gi_mmy, pi_mmy, gr_59_17, gr_59_18, hN', if_neg hle]
    exact u3)
  refine ⟨T, h1, h2, Eq.trans e ?_⟩
  have hN' : T.1 59 4 = n32 ng := by rw [h1.1]; exact hN
  simp only [f_M_findBelow_95, Option.bind_some, is_0, gr_0_0, gr_0_1, gr_0_2, gr_0_3, gr_0_4, gr_0_5, gi_tp, pi_tp, gi_tf, pi_tf, gi_xf, pi_xf, is_1, gr_1_0, gr_1_1, gi_en, pi_en, is_4, gr_4_0, gr_4_1, gr_4_2, gr_4_3, gi_gn, pi_gn, is_9, gr_9_0, gr_9_1, gi_ts, pi_ts, gi_tw, pi_tw, gi_tc, pi_tc, is_40, gr_40_0, is_42, gr_42_0, gr_42_1, gi_dn, pi_dn, is_45, gr_45_0, gr_45_1, gi_xw, pi_xw, gi_xn, pi_xn, gi_xt, pi_xt, is_59, gi_mco, pi_mco, gi_mev, pi_mev, gr_59_2, gr_59_3, gi_mgt, pi_mgt, gr_59_5, gr_59_6, gr_59_7, gr_59_8, gi_mtp, pi_mtp, gr_59_10, gr_59_11, gr_59_12, gr_59_13, gr_59_14, gr_59_15, gi_mmy, pi_mmy, gr_59_17, gr_59_18, hN', if_pos (show n32 ng ≤ n32 ng from (n32_le (by omega) (by omega)).mpr (Nat.le_refl _))]
/-- what the model's arrays hold of the children -/
def KM (S : Ws) (X : Nat → List Nat) : Prop := ∀ g, g < 12 → S.2.1 64 g = n32 (X g).length ∧ ∀ (j : Nat) (hj : j < (X g).length), S.2.1 65 (4 * g + j) = n32 ((X g)[j])
theorem KM.fr {X : Nat → List Nat} {T : Ws} (h : KM S X) (f : Fr66 S T) : KM T X := fun g hg => by
  rw [f.2.2 64 (by omega), f.2.2 65 (by omega)]; exact h g hg
theorem M_fb36 {X : Nat → List Nat} {g : Nat} (hg : g < 12) (hl : (X g).length ≤ 4) (hc : ∀ c, c ∈ X g → c < 28) (K : KM S X) (k24 : Nat → Int32 → List va_E → Option (List va_E)) (H : BR S (fun i h => i < g ∧ 16 + h ∈ X i)) (hfu : 200 ≤ fu) : ∃ T, Fr66 S T ∧ BR T (fun i h => i < g + 1 ∧ 16 + h ∈ X i) ∧ f_M_findBelow_36 fu k24 fu 59 (n32 g) (n32 (4 * g)) (enc S) = k24 59 (n32 (g + 1)) (enc T) := by
  obtain ⟨T, ⟨h1, h2⟩, m, e⟩ := lp0 (F := fun n j T => f_M_findBelow_36 fu k24 n 59 (n32 g) (n32 (4 * g + j)) (enc T)) (I := fun j T => Fr66 S T ∧ BR T (fun i h => (i < g ∧ 16 + h ∈ X i) ∨ (i = g ∧ 16 + h ∈ (X g).take j))) (N := (X g).length) (n := fu) (s := S) (by omega) ⟨Fr66.rf, H.im (fun i _ h _ => by simp)⟩ (fun n j T hj hI => by
    obtain ⟨h1, h2⟩ := hI
    have KT := (K.fr h1) g hg
    have hle : ¬ n32 (4 * g + (X g).length) ≤ n32 (4 * g + j) := by rw [n32_le (by omega) (by omega)]; omega
    have hx := hc _ (List.getElem_mem hj)
    by_cases h16 : (X g)[j] < 16
    · refine ⟨T, ⟨h1, h2.im (fun i _ h _ => ?_)⟩, ?_⟩
      · rw [take_mem hj]
        constructor
        · rintro (h | h)
          · exact Or.inl h
          · exact Or.inr ⟨h.1, Or.inl h.2⟩
        · rintro (h | ⟨h, h' | h'⟩)
          · exact Or.inl h
          · exact Or.inr ⟨h, h'⟩
          · omega
      · simp only [f_M_findBelow_36, f_M_findBelow_81, Option.bind_some, is_0, gr_0_0, gr_0_1, gr_0_2, gr_0_3, gr_0_4, gr_0_5, gi_tp, pi_tp, gi_tf, pi_tf, gi_xf, pi_xf, is_1, gr_1_0, gr_1_1, gi_en, pi_en, is_4, gr_4_0, gr_4_1, gr_4_2, gr_4_3, gi_gn, pi_gn, is_9, gr_9_0, gr_9_1, gi_ts, pi_ts, gi_tw, pi_tw, gi_tc, pi_tc, is_40, gr_40_0, is_42, gr_42_0, gr_42_1, gi_dn, pi_dn, is_45, gr_45_0, gr_45_1, gi_xw, pi_xw, gi_xn, pi_xn, gi_xt, pi_xt, is_59, gi_mco, pi_mco, gi_mev, pi_mev, gr_59_2, gr_59_3, gi_mgt, pi_mgt, gr_59_5, gr_59_6, gr_59_7, gr_59_8, gi_mtp, pi_mtp, gr_59_10, gr_59_11, gr_59_12, gr_59_13, gr_59_14, gr_59_15, gi_mmy, pi_mmy, gr_59_17, gr_59_18, rd_mct hg, KT.1, ln_mul, n32_add, if_neg hle, rd_mki (show 4 * g + j < 48 by omega), KT.2 j hj, nl_lt (show (X g)[j] < 2147483648 by omega) (show 16 < 2147483648 by omega), if_pos h16, nl_add, Nat.add_assoc]
    · have ei : 12 * g + (X g)[j] - 16 = 12 * g + ((X g)[j] - 16) := by omega
      refine ⟨sI T 66 (12 * g + ((X g)[j] - 16)) 1, ⟨h1.st, h2.set hg (by omega) (Or.inr rfl) ⟨fun _ => Or.inr ⟨rfl, ?_⟩, fun _ => rfl⟩ (fun i _ h _ hne => ?_)⟩, ?_⟩
      · rw [take_mem hj]; exact Or.inr (by omega)
      · rw [take_mem hj]
        constructor
        · rintro (h | h)
          · exact Or.inl h
          · exact Or.inr ⟨h.1, Or.inl h.2⟩
        · rintro (h | ⟨h, h' | h'⟩)
          · exact Or.inl h
          · exact Or.inr ⟨h, h'⟩
          · exact absurd ⟨h, by omega⟩ hne
      · simp only [f_M_findBelow_36, f_M_findBelow_81, Option.bind_some, is_0, gr_0_0, gr_0_1, gr_0_2, gr_0_3, gr_0_4, gr_0_5, gi_tp, pi_tp, gi_tf, pi_tf, gi_xf, pi_xf, is_1, gr_1_0, gr_1_1, gi_en, pi_en, is_4, gr_4_0, gr_4_1, gr_4_2, gr_4_3, gi_gn, pi_gn, is_9, gr_9_0, gr_9_1, gi_ts, pi_ts, gi_tw, pi_tw, gi_tc, pi_tc, is_40, gr_40_0, is_42, gr_42_0, gr_42_1, gi_dn, pi_dn, is_45, gr_45_0, gr_45_1, gi_xw, pi_xw, gi_xn, pi_xn, gi_xt, pi_xt, is_59, gi_mco, pi_mco, gi_mev, pi_mev, gr_59_2, gr_59_3, gi_mgt, pi_mgt, gr_59_5, gr_59_6, gr_59_7, gr_59_8, gi_mtp, pi_mtp, gr_59_10, gr_59_11, gr_59_12, gr_59_13, gr_59_14, gr_59_15, gi_mmy, pi_mmy, gr_59_17, gr_59_18, rd_mct hg, KT.1, ln_mul, n32_add, if_neg hle, rd_mki (show 4 * g + j < 48 by omega), KT.2 j hj, nl_lt (show (X g)[j] < 2147483648 by omega) (show 16 < 2147483648 by omega), if_neg h16, nl_sub (show 16 ≤ 12 * g + (X g)[j] by omega), ei, wr_mbl (show 12 * g + ((X g)[j] - 16) < 144 by omega), nar_1, nl_add, Nat.add_assoc])
  refine ⟨T, h1, h2.im (fun i _ h _ => ?_), Eq.trans e ?_⟩
  · rw [List.take_length]
    constructor
    · rintro (h | ⟨rfl, h⟩)
      · exact ⟨by omega, h.2⟩
      · exact ⟨by omega, h⟩
    · rintro ⟨h, h'⟩
      by_cases hi : i = g
      · subst hi; exact Or.inr ⟨rfl, h'⟩
      · exact Or.inl ⟨by omega, h'⟩
  · have KT := (K.fr h1) g hg
    simp only [f_M_findBelow_36, Option.bind_some, is_0, gr_0_0, gr_0_1, gr_0_2, gr_0_3, gr_0_4, gr_0_5, gi_tp, pi_tp, gi_tf, pi_tf, gi_xf, pi_xf, is_1, gr_1_0, gr_1_1, gi_en, pi_en, is_4, gr_4_0, gr_4_1, gr_4_2, gr_4_3, gi_gn, pi_gn, is_9, gr_9_0, gr_9_1, gi_ts, pi_ts, gi_tw, pi_tw, gi_tc, pi_tc, is_40, gr_40_0, is_42, gr_42_0, gr_42_1, gi_dn, pi_dn, is_45, gr_45_0, gr_45_1, gi_xw, pi_xw, gi_xn, pi_xn, gi_xt, pi_xt, is_59, gi_mco, pi_mco, gi_mev, pi_mev, gr_59_2, gr_59_3, gi_mgt, pi_mgt, gr_59_5, gr_59_6, gr_59_7, gr_59_8, gi_mtp, pi_mtp, gr_59_10, gr_59_11, gr_59_12, gr_59_13, gr_59_14, gr_59_15, gi_mmy, pi_mmy, gr_59_17, gr_59_18, rd_mct hg, KT.1, ln_mul, n32_add, if_pos (show n32 (4 * g + (X g).length) ≤ n32 (4 * g + (X g).length) from (n32_le (by omega) (by omega)).mpr (Nat.le_refl _)), nl_add]
theorem M_fb {X : Nat → List Nat} {ng : Nat} (hng : ng ≤ 12) (hN : S.1 59 4 = n32 ng) (hl : ∀ g, (X g).length ≤ 4) (hX : ∀ g c, c ∈ X g → g < ng ∧ (c < 16 ∨ 16 ≤ c ∧ c < 16 + ng)) (K : KM S X) (hfu : 200 ≤ fu) : ∃ T, Fr66 S T ∧ BR T (fun i h => rc X i (16 + h)) ∧ f_M_findBelow fu 59 (enc S) = some (enc T) := by
  obtain ⟨T, ⟨h1, h2⟩, m, e⟩ := lp0 (F := fun n j T => f_M_findBelow_2 fu n 59 (n32 j) (enc T)) (I := fun j T => Fr66 S T ∧ ∀ i, i < j → T.2.1 66 i = 0) (N := 144) (n := fu) (s := S) (by omega) ⟨Fr66.rf, fun i hi => absurd hi (by omega)⟩ (fun n j T hj hI => by
    obtain ⟨h1, h2⟩ := hI
    have hle : ¬ (144 : Int32) ≤ n32 j := by rw [ln_le (by omega) (by omega)]; omega
    refine ⟨sI T 66 j 0, ⟨h1.st, fun i hi => ?_⟩, ?_⟩
    · rw [sI2, if_pos rfl, upd_at]
      by_cases hij : i = j
      · rw [if_pos hij]
      · rw [if_neg hij]; exact h2 i (by omega)
    · simp only [f_M_findBelow_2, Option.bind_some, is_0, gr_0_0, gr_0_1, gr_0_2, gr_0_3, gr_0_4, gr_0_5, gi_tp, pi_tp, gi_tf, pi_tf, gi_xf, pi_xf, is_1, gr_1_0, gr_1_1, gi_en, pi_en, is_4, gr_4_0, gr_4_1, gr_4_2, gr_4_3, gi_gn, pi_gn, is_9, gr_9_0, gr_9_1, gi_ts, pi_ts, gi_tw, pi_tw, gi_tc, pi_tc, is_40, gr_40_0, is_42, gr_42_0, gr_42_1, gi_dn, pi_dn, is_45, gr_45_0, gr_45_1, gi_xw, pi_xw, gi_xn, pi_xn, gi_xt, pi_xt, is_59, gi_mco, pi_mco, gi_mev, pi_mev, gr_59_2, gr_59_3, gi_mgt, pi_mgt, gr_59_5, gr_59_6, gr_59_7, gr_59_8, gi_mtp, pi_mtp, gr_59_10, gr_59_11, gr_59_12, gr_59_13, gr_59_14, gr_59_15, gi_mmy, pi_mmy, gr_59_17, gr_59_18, if_neg hle, wr_mbl hj, nar_0, nl_add])
  obtain ⟨U, ⟨u1, u2⟩, m', e'⟩ := lp0 (F := fun n j U => f_M_findBelow_24 fu n 59 (n32 j) (enc U)) (I := fun j U => Fr66 S U ∧ BR U (fun i h => i < j ∧ 16 + h ∈ X i)) (N := ng) (n := fu) (s := T) (by omega) ⟨h1, fun i hi h hh => ⟨Or.inl (h2 _ (by omega)), by rw [h2 _ (by omega)]; exact ⟨fun h => absurd h (by decide), fun h => absurd h.1 (by omega)⟩⟩⟩ (fun n j U hj hI => by
    obtain ⟨u1, u2⟩ := hI
    have hN' : U.1 59 4 = n32 ng := by rw [u1.1]; exact hN
    have hle : ¬ n32 ng ≤ n32 j := by rw [n32_le (by omega) (by omega)]; omega
    obtain ⟨V, v1, v2, v3⟩ := M_fb36 (fu := fu) (S := U) (X := X) (g := j) (by omega) (hl j) (fun c hc => by have := (hX j c hc).2; omega) (K.fr u1) (f_M_findBelow_24 fu n) u2 hfu
    refine ⟨V, ⟨u1.tr v1, v2⟩, ?_⟩
    simp only [f_M_findBelow_24, Option.bind_some, is_0, gr_0_0, gr_0_1, gr_0_2, gr_0_3, gr_0_4, gr_0_5, gi_tp, pi_tp, gi_tf, pi_tf, gi_xf, pi_xf, is_1, gr_1_0, gr_1_1, gi_en, pi_en, is_4, gr_4_0, gr_4_1, gr_4_2, gr_4_3, gi_gn, pi_gn, is_9, gr_9_0, gr_9_1, gi_ts, pi_ts, gi_tw, pi_tw, gi_tc, pi_tc, is_40, gr_40_0, is_42, gr_42_0, gr_42_1, gi_dn, pi_dn, is_45, gr_45_0, gr_45_1, gi_xw, pi_xw, gi_xn, pi_xn, gi_xt, pi_xt, is_59, gi_mco, pi_mco, gi_mev, pi_mev, gr_59_2, gr_59_3, gi_mgt, pi_mgt, gr_59_5, gr_59_6, gr_59_7, gr_59_8, gi_mtp, pi_mtp, gr_59_10, gr_59_11, gr_59_12, gr_59_13, gr_59_14, gr_59_15, gi_mmy, pi_mmy, gr_59_17, gr_59_18, hN', if_neg hle, ln_mul]
    exact v3)
  have hN' : U.1 59 4 = n32 ng := by rw [u1.1]; exact hN
  obtain ⟨V, v1, v2, v3⟩ := M_fb95 (fu := fu) (S := U) (X := X) hng hN' (u2.im (fun i _ h _ => ⟨fun h => h.2, fun h => ⟨(hX i _ h).1, h⟩⟩)) hfu
  refine ⟨V, u1.tr v1, v2.im (fun i _ h _ => pw_iff (fun g k hk => by have := (hX g _ hk).2; omega) i h), ?_⟩
  have e1 : f_M_findBelow fu 59 (enc S) = f_M_findBelow_24 fu fu 59 0 (enc T) := by
    refine Eq.trans e ?_
    simp only [f_M_findBelow_2, ln_le (show 144 < 2147483648 by omega) (show 144 < 2147483648 by omega), Nat.le_refl, if_true]
  rw [e1]
  refine Eq.trans e' ?_
  simp only [f_M_findBelow_24, Option.bind_some, is_0, gr_0_0, gr_0_1, gr_0_2, gr_0_3, gr_0_4, gr_0_5, gi_tp, pi_tp, gi_tf, pi_tf, gi_xf, pi_xf, is_1, gr_1_0, gr_1_1, gi_en, pi_en, is_4, gr_4_0, gr_4_1, gr_4_2, gr_4_3, gi_gn, pi_gn, is_9, gr_9_0, gr_9_1, gi_ts, pi_ts, gi_tw, pi_tw, gi_tc, pi_tc, is_40, gr_40_0, is_42, gr_42_0, gr_42_1, gi_dn, pi_dn, is_45, gr_45_0, gr_45_1, gi_xw, pi_xw, gi_xn, pi_xn, gi_xt, pi_xt, is_59, gi_mco, pi_mco, gi_mev, pi_mev, gr_59_2, gr_59_3, gi_mgt, pi_mgt, gr_59_5, gr_59_6, gr_59_7, gr_59_8, gi_mtp, pi_mtp, gr_59_10, gr_59_11, gr_59_12, gr_59_13, gr_59_14, gr_59_15, gi_mmy, pi_mmy, gr_59_17, gr_59_18, hN', if_pos (show n32 ng ≤ n32 ng from (n32_le (by omega) (by omega)).mpr (Nat.le_refl _))]
  exact v3
end
