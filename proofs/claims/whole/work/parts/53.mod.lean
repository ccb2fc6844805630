/-! modules, ended -/
section
variable {fu : Nat} {S : Ws} {A : Ab} {r : Nat → Nat}
theorem M_mod75 {X : Nat → List Nat} {ng g t : Nat} (hng : ng ≤ 12) (hg : g < ng) (ht : t < ng) (hN : S.1 59 4 = n32 ng) (hT : S.1 59 9 = n32 t) (hl : ∀ g, (X g).length ≤ 4) (hX : ∀ g c, c ∈ X g → g < ng ∧ (c < 16 ∨ 16 ≤ c ∧ c < 16 + ng)) (K : KM S X) (B : BR S (fun i h => rc X i (16 + h))) (hfu : 200 ≤ fu) (k33 : Nat → Int32 → Int32 → List va_E → Option (Int32 × List va_E)) (x : Int32) (a0 : Bool) : ∃ a : Bool, f_M_modules_71 fu k33 59 x (n32 g) (b32 a0) (enc S) = k33 59 (x ||| (if a = true then (1 : Int32) <<< (n32 g &&& 31) else 0)) (n32 (g + 1)) (enc S) ∧ (a = true ↔ (a0 = true ∧ ∀ k, k < ng → ((k = t ∨ rc X t (16 + k)) ∧ k ≠ g ∧ ¬ rc X g (16 + k)) → ∀ c, c ∈ X k → ¬ rc X g c)) := by
  obtain ⟨a, ha, m, e⟩ := lp0 (F := fun n j a => f_M_modules_75 fu k33 n 59 x (n32 g) (b32 a) (n32 j) (enc S)) (I := fun j a => a = true ↔ (a0 = true ∧ ∀ k, k < j → ((k = t ∨ rc X t (16 + k)) ∧ k ≠ g ∧ ¬ rc X g (16 + k)) → ∀ c, c ∈ X k → ¬ rc X g c)) (N := ng) (n := fu) (s := a0) (by omega) (by simp) (fun n j a hj hI => by
    have hle : ¬ n32 ng ≤ n32 j := by rw [n32_le (by omega) (by omega)]; omega
    have hb1 := B.b (show t < 12 by omega) (show j < 12 by omega)
    have hb2 := B.b (show g < 12 by omega) (show j < 12 by omega)
    have ejt : n32 j = n32 t ↔ j = t := n32_inj (by omega) (by omega)
    have ejg : n32 j = n32 g ↔ j = g := n32_inj (by omega) (by omega)
    have fin : ∀ o : Bool, (o = true ↔ ((j = t ∨ rc X t (16 + j)) ∧ j ≠ g ∧ ¬ rc X g (16 + j))) → f_M_modules_75 fu k33 (n + 1) 59 x (n32 g) (b32 a) (n32 j) (enc S) = f_M_modules_137 fu k33 (f_M_modules_75 fu k33 n) 59 x (n32 g) (b32 a) (n32 j) (b32 o) (enc S) → ∃ a' : Bool, (a' = true ↔ (a0 = true ∧ ∀ k, k < j + 1 → ((k = t ∨ rc X t (16 + k)) ∧ k ≠ g ∧ ¬ rc X g (16 + k)) → ∀ c, c ∈ X k → ¬ rc X g c)) ∧ f_M_modules_75 fu k33 (n + 1) 59 x (n32 g) (b32 a) (n32 j) (enc S) = f_M_modules_75 fu k33 n 59 x (n32 g) (b32 a') (n32 (j + 1)) (enc S) := fun o ho eo => by
      obtain ⟨a', ea, ha'⟩ := M_mod145 (fu := fu) (S := S) (X := X) (ng := ng) (g := g) (k := j) hng hg hj hN hl hX K B hfu k33 (f_M_modules_75 fu k33 n) x a o
      refine ⟨a', ?_, eo.trans ea⟩
      rw [ha', hI, ho]
      constructor
      · rintro ⟨⟨h1, h2⟩, h3⟩
        refine ⟨h1, fun k hk hq => ?_⟩
        by_cases hkj : k = j
        · subst hkj; exact h3 hq
        · exact h2 k (by omega) hq
      · rintro ⟨h1, h2⟩
        exact ⟨⟨h1, fun k hk => h2 k (by omega)⟩, h2 j (by omega)⟩
    have e111 : ∀ o : Bool, (o = true ↔ (j ≠ g ∧ ¬ rc X g (16 + j))) → f_M_modules_111 fu k33 (f_M_modules_75 fu k33 n) 59 x (n32 g) (b32 a) (n32 j) (enc S) = f_M_modules_137 fu k33 (f_M_modules_75 fu k33 n) 59 x (n32 g) (b32 a) (n32 j) (b32 o) (enc S) := fun o ho => by
      simp only [f_M_modules_111, f_M_modules_136, Option.bind_some, is_0, gr_0_0, gr_0_1, gr_0_2, gr_0_3, gr_0_4, gr_0_5, gi_tp, pi_tp, gi_tf, pi_tf, gi_xf, pi_xf, is_1, gr_1_0, gr_1_1, gi_en, pi_en, is_4, gr_4_0, gr_4_1, gr_4_2, gr_4_3, gi_gn, pi_gn, is_9, gr_9_0, gr_9_1, gi_ts, pi_ts, gi_tw, pi_tw, gi_tc, pi_tc, is_40, gr_40_0, is_42, gr_42_0, gr_42_1, gi_dn, pi_dn, is_45, gr_45_0, gr_45_1, gi_xw, pi_xw, gi_xn, pi_xn, gi_xt, pi_xt, is_59, gi_mco, pi_mco, gi_mev, pi_mev, gr_59_2, gr_59_3, gi_mgt, pi_mgt, gr_59_5, gr_59_6, gr_59_7, gr_59_8, gi_mtp, pi_mtp, gr_59_10, gr_59_11, gr_59_12, gr_59_13, gr_59_14, gr_59_15, gi_mmy, pi_mmy, gr_59_17, gr_59_18, ejg, ln_mul, n32_add, rd_mbl (show 12 * g + j < 144 by omega)]
      cases o with
      | true =>
        have := ho.mp rfl
        rw [if_neg this.1, if_pos (hb2.mpr this.2)]; rfl
      | false =>
        by_cases h1 : j = g
        · rw [if_pos h1]; rfl
        · rw [if_neg h1, if_neg (fun q => Bool.noConfusion (ho.mpr ⟨h1, hb2.mp q⟩))]; rfl
    have hdec : ∃ o : Bool, (o = true ↔ (j ≠ g ∧ ¬ rc X g (16 + j))) := by
      classical
      exact ⟨decide (j ≠ g ∧ ¬ rc X g (16 + j)), by simp⟩
    obtain ⟨o, ho⟩ := hdec
    by_cases h1 : j = t
    · refine fin o (ho.trans ⟨fun h => ⟨Or.inl h1, h⟩, fun h => h.2⟩) ?_
      rw [← e111 o ho]
      simp only [f_M_modules_75, Option.bind_some, is_0, gr_0_0, gr_0_1, gr_0_2, gr_0_3, gr_0_4, gr_0_5, gi_tp, pi_tp, gi_tf, pi_tf, gi_xf, pi_xf, is_1, gr_1_0, gr_1_1, gi_en, pi_en, is_4, gr_4_0, gr_4_1, gr_4_2, gr_4_3, gi_gn, pi_gn, is_9, gr_9_0, gr_9_1, gi_ts, pi_ts, gi_tw, pi_tw, gi_tc, pi_tc, is_40, gr_40_0, is_42, gr_42_0, gr_42_1, gi_dn, pi_dn, is_45, gr_45_0, gr_45_1, gi_xw, pi_xw, gi_xn, pi_xn, gi_xt, pi_xt, is_59, gi_mco, pi_mco, gi_mev, pi_mev, gr_59_2, gr_59_3, gi_mgt, pi_mgt, gr_59_5, gr_59_6, gr_59_7, gr_59_8, gi_mtp, pi_mtp, gr_59_10, gr_59_11, gr_59_12, gr_59_13, gr_59_14, gr_59_15, gi_mmy, pi_mmy, gr_59_17, gr_59_18, hN, hT, if_neg hle, ejt, if_pos h1]
    · by_cases h2 : rc X t (16 + j)
      · refine fin o (ho.trans ⟨fun h => ⟨Or.inr h2, h⟩, fun h => h.2⟩) ?_
        rw [← e111 o ho]
        simp only [f_M_modules_75, Option.bind_some, is_0, gr_0_0, gr_0_1, gr_0_2, gr_0_3, gr_0_4, gr_0_5, gi_tp, pi_tp, gi_tf, pi_tf, gi_xf, pi_xf, is_1, gr_1_0, gr_1_1, gi_en, pi_en, is_4, gr_4_0, gr_4_1, gr_4_2, gr_4_3, gi_gn, pi_gn, is_9, gr_9_0, gr_9_1, gi_ts, pi_ts, gi_tw, pi_tw, gi_tc, pi_tc, is_40, gr_40_0, is_42, gr_42_0, gr_42_1, gi_dn, pi_dn, is_45, gr_45_0, gr_45_1, gi_xw, pi_xw, gi_xn, pi_xn, gi_xt, pi_xt, is_59, gi_mco, pi_mco, gi_mev, pi_mev, gr_59_2, gr_59_3, gi_mgt, pi_mgt, gr_59_5, gr_59_6, gr_59_7, gr_59_8, gi_mtp, pi_mtp, gr_59_10, gr_59_11, gr_59_12, gr_59_13, gr_59_14, gr_59_15, gi_mmy, pi_mmy, gr_59_17, gr_59_18, hN, hT, if_neg hle, ejt, if_neg h1, ln_mul, n32_add, rd_mbl (show 12 * t + j < 144 by omega), if_neg (fun q => hb1.mp q h2)]
      · refine fin false ⟨fun h => Bool.noConfusion h, fun h => h.1.elim (fun q => absurd q h1) (fun q => absurd q h2)⟩ ?_
        simp only [f_M_modules_75, f_M_modules_136, Option.bind_some, is_0, gr_0_0, gr_0_1, gr_0_2, gr_0_3, gr_0_4, gr_0_5, gi_tp, pi_tp, gi_tf, pi_tf, gi_xf, pi_xf, is_1, gr_1_0, gr_1_1, gi_en, pi_en, is_4, gr_4_0, gr_4_1, gr_4_2, gr_4_3, gi_gn, pi_gn, is_9, gr_9_0, gr_9_1, gi_ts, pi_ts, gi_tw, pi_tw, gi_tc, pi_tc, is_40, gr_40_0, is_42, gr_42_0, gr_42_1, gi_dn, pi_dn, is_45, gr_45_0, gr_45_1, gi_xw, pi_xw, gi_xn, pi_xn, gi_xt, pi_xt, is_59, gi_mco, pi_mco, gi_mev, pi_mev, gr_59_2, gr_59_3, gi_mgt, pi_mgt, gr_59_5, gr_59_6, gr_59_7, gr_59_8, gi_mtp, pi_mtp, gr_59_10, gr_59_11, gr_59_12, gr_59_13, gr_59_14, gr_59_15, gi_mmy, pi_mmy, gr_59_17, gr_59_18, hN, hT, if_neg hle, ejt, if_neg h1, ln_mul, n32_add, rd_mbl (show 12 * t + j < 144 by omega), if_pos (hb1.mpr h2)]
        rfl)
  refine ⟨a, ?_, ha⟩
  simp only [f_M_modules_71]
  refine Eq.trans e ?_
  simp only [f_M_modules_75, f_M_modules_216, Option.bind_some, is_0, gr_0_0, gr_0_1, gr_0_2, gr_0_3, gr_0_4, gr_0_5, gi_tp, pi_tp, gi_tf, pi_tf, gi_xf, pi_xf, is_1, gr_1_0, gr_1_1, gi_en, pi_en, is_4, gr_4_0, gr_4_1, gr_4_2, gr_4_3, gi_gn, pi_gn, is_9, gr_9_0, gr_9_1, gi_ts, pi_ts, gi_tw, pi_tw, gi_tc, pi_tc, is_40, gr_40_0, is_42, gr_42_0, gr_42_1, gi_dn, pi_dn, is_45, gr_45_0, gr_45_1, gi_xw, pi_xw, gi_xn, pi_xn, gi_xt, pi_xt, is_59, gi_mco, pi_mco, gi_mev, pi_mev, gr_59_2, gr_59_3, gi_mgt, pi_mgt, gr_59_5, gr_59_6, gr_59_7, gr_59_8, gi_mtp, pi_mtp, gr_59_10, gr_59_11, gr_59_12, gr_59_13, gr_59_14, gr_59_15, gi_mmy, pi_mmy, gr_59_17, gr_59_18, hN, if_pos (show n32 ng ≤ n32 ng from (n32_le (by omega) (by omega)).mpr (Nat.le_refl _)), b32_0, nl_add]
  cases a <;> rfl
theorem M_mods {X : Nat → List Nat} {ng t : Nat} (hng : ng ≤ 12) (ht : t < ng) (hN : S.1 59 4 = n32 ng) (hT : S.1 59 9 = n32 t) (hl : ∀ g, (X g).length ≤ 4) (hX : ∀ g c, c ∈ X g → g < ng ∧ (c < 16 ∨ 16 ≤ c ∧ c < 16 + ng)) (K : KM S X) (B : BR S (fun i h => rc X i (16 + h))) (hfu : 200 ≤ fu) : ∃ x, f_M_modules_33 fu fu 59 0 0 (enc S) = some (x, enc S) ∧ ∀ y, y < 32 → (bt x y = true ↔ (y < ng ∧ isMod X ng t y)) := by
  obtain ⟨x, hx, m, e⟩ := lp0 (F := fun n j x => f_M_modules_33 fu n 59 x (n32 j) (enc S)) (I := fun j x => ∀ y, y < 32 → (bt x y = true ↔ (y < j ∧ isMod X ng t y))) (N := ng) (n := fu) (s := (0 : Int32)) (by omega) (fun y hy => by rw [bt_0]; simp) (fun n j x hj hI => by
    have hle : ¬ n32 ng ≤ n32 j := by rw [n32_le (by omega) (by omega)]; omega
    have hb1 := B.b (show t < 12 by omega) (show j < 12 by omega)
    have ejt : n32 j = n32 t ↔ j = t := n32_inj (by omega) (by omega)
    have fin : ∀ a0 : Bool, (a0 = true ↔ (j = t ∨ rc X t (16 + j))) → f_M_modules_33 fu (n + 1) 59 x (n32 j) (enc S) = f_M_modules_71 fu (f_M_modules_33 fu n) 59 x (n32 j) (b32 a0) (enc S) → ∃ x', (∀ y, y < 32 → (bt x' y = true ↔ (y < j + 1 ∧ isMod X ng t y))) ∧ f_M_modules_33 fu (n + 1) 59 x (n32 j) (enc S) = f_M_modules_33 fu n 59 x' (n32 (j + 1)) (enc S) := fun a0 h0 e0 => by
      obtain ⟨a, ea, ha⟩ := M_mod75 (fu := fu) (S := S) (X := X) (ng := ng) (g := j) (t := t) hng hj ht hN hT hl hX K B hfu (f_M_modules_33 fu n) x a0
      refine ⟨_, fun y hy => ?_, e0.trans ea⟩
      have hm : a = true ↔ isMod X ng t j := by rw [ha, h0]; rfl
      rw [bt_or, Bool.or_eq_true, hI y hy]
      cases haa : a with
      | true =>
        rw [if_pos rfl, bt_shl (by omega) hy, decide_eq_true_eq]
        constructor
        · rintro (h | rfl)
          · exact ⟨by omega, h.2⟩
          · exact ⟨by omega, hm.mp haa⟩
        · intro h
          by_cases hyj : y = j
          · exact Or.inr hyj
          · exact Or.inl ⟨by omega, h.2⟩
      | false =>
        rw [if_neg (by decide), bt_0]
        constructor
        · rintro (h | h)
          · exact ⟨by omega, h.2⟩
          · cases h
        · intro h
          by_cases hyj : y = j
          · subst hyj; rw [hm.mpr h.2] at haa; cases haa
          · exact Or.inl ⟨by omega, h.2⟩
    by_cases h1 : j = t
    · refine fin true ⟨fun _ => Or.inl h1, fun _ => rfl⟩ ?_
      simp only [f_M_modules_33, f_M_modules_66, Option.bind_some, is_0, gr_0_0, gr_0_1, gr_0_2, gr_0_3, gr_0_4, gr_0_5, gi_tp, pi_tp, gi_tf, pi_tf, gi_xf, pi_xf, is_1, gr_1_0, gr_1_1, gi_en, pi_en, is_4, gr_4_0, gr_4_1, gr_4_2, gr_4_3, gi_gn, pi_gn, is_9, gr_9_0, gr_9_1, gi_ts, pi_ts, gi_tw, pi_tw, gi_tc, pi_tc, is_40, gr_40_0, is_42, gr_42_0, gr_42_1, gi_dn, pi_dn, is_45, gr_45_0, gr_45_1, gi_xw, pi_xw, gi_xn, pi_xn, gi_xt, pi_xt, is_59, gi_mco, pi_mco, gi_mev, pi_mev, gr_59_2, gr_59_3, gi_mgt, pi_mgt, gr_59_5, gr_59_6, gr_59_7, gr_59_8, gi_mtp, pi_mtp, gr_59_10, gr_59_11, gr_59_12, gr_59_13, gr_59_14, gr_59_15, gi_mmy, pi_mmy, gr_59_17, gr_59_18, hN, hT, if_neg hle, ejt, if_pos h1]
      rfl
    · by_cases h2 : rc X t (16 + j)
      · refine fin true ⟨fun _ => Or.inr h2, fun _ => rfl⟩ ?_
        simp only [f_M_modules_33, f_M_modules_66, Option.bind_some, is_0, gr_0_0, gr_0_1, gr_0_2, gr_0_3, gr_0_4, gr_0_5, gi_tp, pi_tp, gi_tf, pi_tf, gi_xf, pi_xf, is_1, gr_1_0, gr_1_1, gi_en, pi_en, is_4, gr_4_0, gr_4_1, gr_4_2, gr_4_3, gi_gn, pi_gn, is_9, gr_9_0, gr_9_1, gi_ts, pi_ts, gi_tw, pi_tw, gi_tc, pi_tc, is_40, gr_40_0, is_42, gr_42_0, gr_42_1, gi_dn, pi_dn, is_45, gr_45_0, gr_45_1, gi_xw, pi_xw, gi_xn, pi_xn, gi_xt, pi_xt, is_59, gi_mco, pi_mco, gi_mev, pi_mev, gr_59_2, gr_59_3, gi_mgt, pi_mgt, gr_59_5, gr_59_6, gr_59_7, gr_59_8, gi_mtp, pi_mtp, gr_59_10, gr_59_11, gr_59_12, gr_59_13, gr_59_14, gr_59_15, gi_mmy, pi_mmy, gr_59_17, gr_59_18, hN, hT, if_neg hle, ejt, if_neg h1, ln_mul, n32_add, rd_mbl (show 12 * t + j < 144 by omega), if_neg (fun q => hb1.mp q h2)]
        rfl
      · refine fin false ⟨fun h => Bool.noConfusion h, fun h => h.elim (fun q => absurd q h1) (fun q => absurd q h2)⟩ ?_
        simp only [f_M_modules_33, f_M_modules_66, Option.bind_some, is_0, gr_0_0, gr_0_1, gr_0_2, gr_0_3, gr_0_4, gr_0_5, gi_tp, pi_tp, gi_tf, pi_tf, gi_xf, pi_xf, is_1, gr_1_0, gr_1_1, gi_en, pi_en, is_4, gr_4_0, gr_4_1, gr_4_2, gr_4_3, gi_gn, pi_gn, is_9, gr_9_0, gr_9_1, gi_ts, pi_ts, gi_tw, pi_tw, gi_tc, pi_tc, is_40, gr_40_0, is_42, gr_42_0, gr_42_1, gi_dn, pi_dn, is_45, gr_45_0, gr_45_1, gi_xw, pi_xw, gi_xn, pi_xn, gi_xt, pi_xt, is_59, gi_mco, pi_mco, gi_mev, pi_mev, gr_59_2, gr_59_3, gi_mgt, pi_mgt, gr_59_5, gr_59_6, gr_59_7, gr_59_8, gi_mtp, pi_mtp, gr_59_10, gr_59_11, gr_59_12, gr_59_13, gr_59_14, gr_59_15, gi_mmy, pi_mmy, gr_59_17, gr_59_18, hN, hT, if_neg hle, ejt, if_neg h1, ln_mul, n32_add, rd_mbl (show 12 * t + j < 144 by omega), if_pos (hb1.mpr h2)]
        rfl)
  refine ⟨x, Eq.trans e ?_, hx⟩
  simp only [f_M_modules_33, Option.bind_some, is_0, gr_0_0, gr_0_1, gr_0_2, gr_0_3, gr_0_4, gr_0_5, gi_tp, pi_tp, gi_tf, pi_tf, gi_xf, pi_xf, is_1, gr_1_0, gr_1_1, gi_en, pi_en, is_4, gr_4_0, gr_4_1, gr_4_2, gr_4_3, gi_gn, pi_gn, is_9, gr_9_0, gr_9_1, gi_ts, pi_ts, gi_tw, pi_tw, gi_tc, pi_tc, is_40, gr_40_0, is_42, gr_42_0, gr_42_1, gi_dn, pi_dn, is_45, gr_45_0, gr_45_1, gi_xw, pi_xw, gi_xn, pi_xn, gi_xt, pi_xt, is_59, gi_mco, pi_mco, gi_mev, pi_mev, gr_59_2, gr_59_3, gi_mgt, pi_mgt, gr_59_5, gr_59_6, gr_59_7, gr_59_8, gi_mtp, pi_mtp, gr_59_10, gr_59_11, gr_59_12, gr_59_13, gr_59_14, gr_59_15, gi_mmy, pi_mmy, gr_59_17, gr_59_18, hN, if_pos (show n32 ng ≤ n32 ng from (n32_le (by omega) (by omega)).mpr (Nat.le_refl _))]
theorem c_modules (I : Inv S A r) (hfu : 200 ≤ fu) : Cas (f_L_modules fu 0 74) (f_M_modules fu 59) S := by
  obtain ⟨O, D, M, T, X⟩ := id I
  have hG := O.2.1
  have hT := D.2.2.2.2.2.1
  have hTM := M.2.2.2.2.2
  cases ht : aT A with
  | none =>
    rw [ht] at hT hTM
    refine Cas.no I (k := 1) (by decide) ?_ ?_
    · simp only [f_L_modules, f_F_modules, Option.bind_some, is_0, gr_0_0, gr_0_1, gr_0_2, gr_0_3, gr_0_4, gr_0_5, gi_tp, pi_tp, gi_tf, pi_tf, gi_xf, pi_xf, is_1, gr_1_0, gr_1_1, gi_en, pi_en, is_4, gr_4_0, gr_4_1, gr_4_2, gr_4_3, gi_gn, pi_gn, is_9, gr_9_0, gr_9_1, gi_ts, pi_ts, gi_tw, pi_tw, gi_tc, pi_tc, is_40, gr_40_0, is_42, gr_42_0, gr_42_1, gi_dn, pi_dn, is_45, gr_45_0, gr_45_1, gi_xw, pi_xw, gi_xn, pi_xn, gi_xt, pi_xt, is_59, gi_mco, pi_mco, gi_mev, pi_mev, gr_59_2, gr_59_3, gi_mgt, pi_mgt, gr_59_5, gr_59_6, gr_59_7, gr_59_8, gi_mtp, pi_mtp, gr_59_10, gr_59_11, gr_59_12, gr_59_13, gr_59_14, gr_59_15, gi_mmy, pi_mmy, gr_59_17, gr_59_18, F_needTop (t := none) (fun _ h => by cases h) hT, hx_inl, hl_inl, if_true]
    · simp only [f_M_modules, f_M_modules_13, Option.bind_some, is_0, gr_0_0, gr_0_1, gr_0_2, gr_0_3, gr_0_4, gr_0_5, gi_tp, pi_tp, gi_tf, pi_tf, gi_xf, pi_xf, is_1, gr_1_0, gr_1_1, gi_en, pi_en, is_4, gr_4_0, gr_4_1, gr_4_2, gr_4_3, gi_gn, pi_gn, is_9, gr_9_0, gr_9_1, gi_ts, pi_ts, gi_tw, pi_tw, gi_tc, pi_tc, is_40, gr_40_0, is_42, gr_42_0, gr_42_1, gi_dn, pi_dn, is_45, gr_45_0, gr_45_1, gi_xw, pi_xw, gi_xn, pi_xn, gi_xt, pi_xt, is_59, gi_mco, pi_mco, gi_mev, pi_mev, gr_59_2, gr_59_3, gi_mgt, pi_mgt, gr_59_5, gr_59_6, gr_59_7, gr_59_8, gi_mtp, pi_mtp, gr_59_10, gr_59_11, gr_59_12, gr_59_13, gr_59_14, gr_59_15, gi_mmy, pi_mmy, gr_59_17, gr_59_18, hTM, show ¬ ((0 : Int32) ≤ -1) from by decide, if_false, sS1, upd_at, if_true, m_le0]
  | some t =>
    have htg := O.2.2.2.2.2.2.2 t ht
    rw [ht] at hT hTM
    obtain ⟨x, ex, hx⟩ := G_mods (fu := fu) O D htg hfu
    obtain ⟨U, u1, u2, u3⟩ := M_fb (fu := fu) (S := sS (sL S 74 0 x.toInt64) 59 0 0) (X := aX A) (ng := aG A) hG M.2.2.1 O.len (fun g c hc => ⟨(O.2.2.2.2.2.1 g c hc).1, by have := (O.2.2.2.2.2.1 g c hc).2; have := O.1; omega⟩) M.km hfu
    have KU : KM U (aX A) := KM.fr (S := sS (sL S 74 0 x.toInt64) 59 0 0) M.km u1
    obtain ⟨y, ey, hy⟩ := M_mods (fu := fu) (S := U) (X := aX A) (ng := aG A) (t := t) hG htg (by rw [u1.1]; exact M.2.2.1) (by rw [u1.1]; exact hTM) O.len (fun g c hc => ⟨(O.2.2.2.2.2.1 g c hc).1, by have := (O.2.2.2.2.2.1 g c hc).2; have := O.1; omega⟩) KU u2 hfu
    have exy : x = y := bt_ext (fun k hk => by
      have h1 := hx k hk; have h2 := hy k hk
      cases hxk : bt x k <;> cases hyk : bt y k
      · rfl
      · exact absurd (h1.mpr (h2.mp hyk)) (by rw [hxk]; decide)
      · exact absurd (h2.mpr (h1.mp hxk)) (by rw [hyk]; decide)
      · rfl)
    subst exy
    refine ⟨0, sL S 74 0 x.toInt64, x, U, ?_, ?_, ?_, fun _ => ?_, A, r, ?_⟩
    · simp only [f_L_modules, f_F_modules, Option.bind_some, is_0, gr_0_0, gr_0_1, gr_0_2, gr_0_3, gr_0_4, gr_0_5, gi_tp, pi_tp, gi_tf, pi_tf, gi_xf, pi_xf, is_1, gr_1_0, gr_1_1, gi_en, pi_en, is_4, gr_4_0, gr_4_1, gr_4_2, gr_4_3, gi_gn, pi_gn, is_9, gr_9_0, gr_9_1, gi_ts, pi_ts, gi_tw, pi_tw, gi_tc, pi_tc, is_40, gr_40_0, is_42, gr_42_0, gr_42_1, gi_dn, pi_dn, is_45, gr_45_0, gr_45_1, gi_xw, pi_xw, gi_xn, pi_xn, gi_xt, pi_xt, is_59, gi_mco, pi_mco, gi_mev, pi_mev, gr_59_2, gr_59_3, gi_mgt, pi_mgt, gr_59_5, gr_59_6, gr_59_7, gr_59_8, gi_mtp, pi_mtp, gr_59_10, gr_59_11, gr_59_12, gr_59_13, gr_59_14, gr_59_15, gi_mmy, pi_mmy, gr_59_17, gr_59_18, F_needTop (t := some t) (fun k h => by obtain rfl := Option.some.inj h; omega) hT, hx_inr, hT, ex, hl_inr, wr_out0]
    · have hTM' : (sL S 74 0 x.toInt64).1 59 9 = n32 t := hTM
      have h0 : (0 : Int32) ≤ n32 t := (n32_le (a := 0) (by omega) (by omega)).mpr (Nat.zero_le _)
      simp only [f_M_modules, f_M_modules_13, Option.bind_some, is_0, gr_0_0, gr_0_1, gr_0_2, gr_0_3, gr_0_4, gr_0_5, gi_tp, pi_tp, gi_tf, pi_tf, gi_xf, pi_xf, is_1, gr_1_0, gr_1_1, gi_en, pi_en, is_4, gr_4_0, gr_4_1, gr_4_2, gr_4_3, gi_gn, pi_gn, is_9, gr_9_0, gr_9_1, gi_ts, pi_ts, gi_tw, pi_tw, gi_tc, pi_tc, is_40, gr_40_0, is_42, gr_42_0, gr_42_1, gi_dn, pi_dn, is_45, gr_45_0, gr_45_1, gi_xw, pi_xw, gi_xn, pi_xn, gi_xt, pi_xt, is_59, gi_mco, pi_mco, gi_mev, pi_mev, gr_59_2, gr_59_3, gi_mgt, pi_mgt, gr_59_5, gr_59_6, gr_59_7, gr_59_8, gi_mtp, pi_mtp, gr_59_10, gr_59_11, gr_59_12, gr_59_13, gr_59_14, gr_59_15, gi_mmy, pi_mmy, gr_59_17, gr_59_18, hTM', if_pos h0, sS1, upd_at, if_true, show (0 : Int32) ≤ 0 from by decide, u3]
      exact ey
    · rw [u1.1]; rfl
    · rw [u1.2.1]; rfl
    · have J : Inv (sS (sL S 74 0 x.toInt64) 59 0 0) A r := Inv.cg I rfl rfl rfl rfl rfl rfl rfl rfl (fun _ _ => rfl) (fun q h1 h2 => by
        show upL S.2.2 74 0 _ q = _
        exact upL_ne (by omega))
      refine Inv.cg J ?_ ?_ ?_ ?_ ?_ ?_ ?_ ?_ ?_ ?_
      · rw [u1.1]
      · rw [u1.1]
      · rw [u1.1]
      · rw [u1.1]
      · rw [u1.1]
      · rw [u1.1]
      · rw [u1.1]
      · rw [u1.1]
      · intro q hq
        refine u1.2.2 q (fun e => ?_)
        subst e; simp at hq
      · intro q _ _
        rw [u1.2.1]
end
