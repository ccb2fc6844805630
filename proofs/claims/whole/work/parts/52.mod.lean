/-! the model's modules; desk and model agree -/
section
variable {fu : Nat} {S : Ws} {A : Ab} {r : Nat → Nat}
theorem BR.b {T : Ws} {P : Nat → Nat → Prop} (H : BR T P) {i h : Nat} (hi : i < 12) (hh : h < 12) : T.2.1 66 (12 * i + h) = 0 ↔ ¬ P i h := by
  have := H i hi h hh
  constructor
  · intro h1 h2
    rw [this.2.mpr h2] at h1; exact absurd h1 (by decide)
  · intro h1
    exact this.1.resolve_right (fun q => h1 (this.2.mp q))
theorem M_isUnder {X : Nat → List Nat} {ng g c : Nat} (hng : ng ≤ 12) (hg : g < ng) (hc : c < 16 + ng) (hN : S.1 59 4 = n32 ng) (hl : ∀ g, (X g).length ≤ 4) (hX : ∀ g c, c ∈ X g → g < ng ∧ (c < 16 ∨ 16 ≤ c ∧ c < 16 + ng)) (K : KM S X) (B : BR S (fun i h => rc X i (16 + h))) (hfu : 200 ≤ fu) : ∃ b : Bool, f_M_isUnder fu 59 (n32 g) (n32 c) (enc S) = some (b32 b, enc S) ∧ (b = true ↔ rc X g c) := by
  have hch : ∀ k, k < 12 → f_M_hasChild fu 59 (n32 k) (n32 c) (enc S) = some (b32 (decide (c ∈ X k)), enc S) := fun k hk => M_hasChild hk (hl k) (by omega) (fun y hy => by have := (hX k y hy).2; omega) (K k hk).1 (K k hk).2 (by omega)
  have main : ∀ b0 : Bool, (b0 = true → rc X g c) → (c ∈ X g → b0 = true) → ∃ b : Bool, f_M_isUnder_37 fu 59 (n32 g) (n32 c) (b32 b0) (enc S) = some (b32 b, enc S) ∧ (b = true ↔ rc X g c) := fun b0 hb1 hb2 => by
    obtain ⟨b, hb, m, e⟩ := lp0 (F := fun n j b => f_M_isUnder_41 fu n 59 (n32 g) (n32 c) (b32 b) (n32 j) (enc S)) (I := fun j b => b = true ↔ (b0 = true ∨ ∃ k, k < j ∧ rc X g (16 + k) ∧ c ∈ X k)) (N := ng) (n := fu) (s := b0) (by omega) (by simp) (fun n j b hj hI => by
      have hle : ¬ n32 ng ≤ n32 j := by rw [n32_le (by omega) (by omega)]; omega
      have hbr := B.b (show g < 12 by omega) (show j < 12 by omega)
      cases hb : b with
      | true =>
        refine ⟨true, ⟨fun _ => (hI.mp hb).imp_right (fun ⟨k, h1, h2⟩ => ⟨k, by omega, h2⟩), fun _ => rfl⟩, ?_⟩
        simp only [f_M_isUnder_41, f_M_isUnder_79, f_M_isUnder_84, Option.bind_some, is_0, gr_0_0, gr_0_1, gr_0_2, gr_0_3, gr_0_4, gr_0_5, gi_tp, pi_tp, gi_tf, pi_tf, gi_xf, pi_xf, is_1, gr_1_0, gr_1_1, gi_en, pi_en, is_4, gr_4_0, gr_4_1, gr_4_2, gr_4_3, gi_gn, pi_gn, is_9, gr_9_0, gr_9_1, gi_ts, pi_ts, gi_tw, pi_tw, gi_tc, pi_tc, is_40, gr_40_0, is_42, gr_42_0, gr_42_1, gi_dn, pi_dn, is_45, gr_45_0, gr_45_1, gi_xw, pi_xw, gi_xn, pi_xn, gi_xt, pi_xt, is_59, gi_mco, pi_mco, gi_mev, pi_mev, gr_59_2, gr_59_3, gi_mgt, pi_mgt, gr_59_5, gr_59_6, gr_59_7, gr_59_8, gi_mtp, pi_mtp, gr_59_10, gr_59_11, gr_59_12, gr_59_13, gr_59_14, gr_59_15, gi_mmy, pi_mmy, gr_59_17, gr_59_18, hN, if_neg hle, b32_0, Bool.true_eq_false, if_false, nl_add]
        rfl
      | false =>
        have hno : ¬ (b0 = true ∨ ∃ k, k < j ∧ rc X g (16 + k) ∧ c ∈ X k) := fun h => by rw [hI.mpr h] at hb; cases hb
        by_cases h1 : rc X g (16 + j)
        · by_cases h2 : c ∈ X j
          · refine ⟨true, ⟨fun _ => Or.inr ⟨j, by omega, h1, h2⟩, fun _ => rfl⟩, ?_⟩
            simp only [f_M_isUnder_41, f_M_isUnder_79, f_M_isUnder_83, f_M_isUnder_84, Option.bind_some, is_0, gr_0_0, gr_0_1, gr_0_2, gr_0_3, gr_0_4, gr_0_5, gi_tp, pi_tp, gi_tf, pi_tf, gi_xf, pi_xf, is_1, gr_1_0, gr_1_1, gi_en, pi_en, is_4, gr_4_0, gr_4_1, gr_4_2, gr_4_3, gi_gn, pi_gn, is_9, gr_9_0, gr_9_1, gi_ts, pi_ts, gi_tw, pi_tw, gi_tc, pi_tc, is_40, gr_40_0, is_42, gr_42_0, gr_42_1, gi_dn, pi_dn, is_45, gr_45_0, gr_45_1, gi_xw, pi_xw, gi_xn, pi_xn, gi_xt, pi_xt, is_59, gi_mco, pi_mco, gi_mev, pi_mev, gr_59_2, gr_59_3, gi_mgt, pi_mgt, gr_59_5, gr_59_6, gr_59_7, gr_59_8, gi_mtp, pi_mtp, gr_59_10, gr_59_11, gr_59_12, gr_59_13, gr_59_14, gr_59_15, gi_mmy, pi_mmy, gr_59_17, gr_59_18, hN, if_neg hle, b32_0, if_true, ln_mul, n32_add, rd_mbl (show 12 * g + j < 144 by omega), if_neg (fun q => hbr.mp q h1), hch j (by omega), decide_eq_true h2, Bool.true_eq_false, if_false, nl_add]
            rfl
          · refine ⟨false, ⟨fun h => Bool.noConfusion h, fun h => ?_⟩, ?_⟩
            · rcases h with h | ⟨k, k1, k2, k3⟩
              · exact absurd (Or.inl h) hno
              · by_cases hk : k = j
                · subst hk; exact absurd k3 h2
                · exact absurd (Or.inr ⟨k, by omega, k2, k3⟩) hno
            · simp only [f_M_isUnder_41, f_M_isUnder_79, f_M_isUnder_83, f_M_isUnder_84, Option.bind_some, is_0, gr_0_0, gr_0_1, gr_0_2, gr_0_3, gr_0_4, gr_0_5, gi_tp, pi_tp, gi_tf, pi_tf, gi_xf, pi_xf, is_1, gr_1_0, gr_1_1, gi_en, pi_en, is_4, gr_4_0, gr_4_1, gr_4_2, gr_4_3, gi_gn, pi_gn, is_9, gr_9_0, gr_9_1, gi_ts, pi_ts, gi_tw, pi_tw, gi_tc, pi_tc, is_40, gr_40_0, is_42, gr_42_0, gr_42_1, gi_dn, pi_dn, is_45, gr_45_0, gr_45_1, gi_xw, pi_xw, gi_xn, pi_xn, gi_xt, pi_xt, is_59, gi_mco, pi_mco, gi_mev, pi_mev, gr_59_2, gr_59_3, gi_mgt, pi_mgt, gr_59_5, gr_59_6, gr_59_7, gr_59_8, gi_mtp, pi_mtp, gr_59_10, gr_59_11, gr_59_12, gr_59_13, gr_59_14, gr_59_15, gi_mmy, pi_mmy, gr_59_17, gr_59_18, hN, if_neg hle, b32_0, if_true, ln_mul, n32_add, rd_mbl (show 12 * g + j < 144 by omega), if_neg (fun q => hbr.mp q h1), hch j (by omega), decide_eq_false h2, nl_add]
              rfl
        · refine ⟨false, ⟨fun h => Bool.noConfusion h, fun h => ?_⟩, ?_⟩
          · rcases h with h | ⟨k, k1, k2, k3⟩
            · exact absurd (Or.inl h) hno
            · by_cases hk : k = j
              · subst hk; exact absurd k2 h1
              · exact absurd (Or.inr ⟨k, by omega, k2, k3⟩) hno
          · simp only [f_M_isUnder_41, f_M_isUnder_79, f_M_isUnder_83, f_M_isUnder_84, Option.bind_some, is_0, gr_0_0, gr_0_1, gr_0_2, gr_0_3, gr_0_4, gr_0_5, gi_tp, pi_tp, gi_tf, pi_tf, gi_xf, pi_xf, is_1, gr_1_0, gr_1_1, gi_en, pi_en, is_4, gr_4_0, gr_4_1, gr_4_2, gr_4_3, gi_gn, pi_gn, is_9, gr_9_0, gr_9_1, gi_ts, pi_ts, gi_tw, pi_tw, gi_tc, pi_tc, is_40, gr_40_0, is_42, gr_42_0, gr_42_1, gi_dn, pi_dn, is_45, gr_45_0, gr_45_1, gi_xw, pi_xw, gi_xn, pi_xn, gi_xt, pi_xt, is_59, gi_mco, pi_mco, gi_mev, pi_mev, gr_59_2, gr_59_3, gi_mgt, pi_mgt, gr_59_5, gr_59_6, gr_59_7, gr_59_8, gi_mtp, pi_mtp, gr_59_10, gr_59_11, gr_59_12, gr_59_13, gr_59_14, gr_59_15, gi_mmy, pi_mmy, gr_59_17, gr_59_18, hN, if_neg hle, b32_0, if_true, ln_mul, n32_add, rd_mbl (show 12 * g + j < 144 by omega), if_pos (hbr.mpr h1), nl_add]
            rfl)
    refine ⟨b, ?_, ?_⟩
    · simp only [f_M_isUnder_37]
      refine Eq.trans e ?_
      simp only [f_M_isUnder_41, Option.bind_some, is_0, gr_0_0, gr_0_1, gr_0_2, gr_0_3, gr_0_4, gr_0_5, gi_tp, pi_tp, gi_tf, pi_tf, gi_xf, pi_xf, is_1, gr_1_0, gr_1_1, gi_en, pi_en, is_4, gr_4_0, gr_4_1, gr_4_2, gr_4_3, gi_gn, pi_gn, is_9, gr_9_0, gr_9_1, gi_ts, pi_ts, gi_tw, pi_tw, gi_tc, pi_tc, is_40, gr_40_0, is_42, gr_42_0, gr_42_1, gi_dn, pi_dn, is_45, gr_45_0, gr_45_1, gi_xw, pi_xw, gi_xn, pi_xn, gi_xt, pi_xt, is_59, gi_mco, pi_mco, gi_mev, pi_mev, gr_59_2, gr_59_3, gi_mgt, pi_mgt, gr_59_5, gr_59_6, gr_59_7, gr_59_8, gi_mtp, pi_mtp, gr_59_10, gr_59_11, gr_59_12, gr_59_13, gr_59_14, gr_59_15, gi_mmy, pi_mmy, gr_59_17, gr_59_18, hN, if_pos (show n32 ng ≤ n32 ng from (n32_le (by omega) (by omega)).mpr (Nat.le_refl _)), if_pos (b32_ok b)]
    · rw [hb, rc_last]
      constructor
      · rintro (h | ⟨k, _, h⟩)
        · exact rc_last.mp (hb1 h)
        · exact Or.inr ⟨k, h⟩
      · rintro (h | ⟨k, h1, h2⟩)
        · exact Or.inl (hb2 h)
        · exact Or.inr ⟨k, (hX k c h2).1, h1, h2⟩
  have m23 : ∃ b : Bool, f_M_isUnder_23 fu 59 (n32 g) (n32 c) (enc S) = some (b32 b, enc S) ∧ (b = true ↔ rc X g c) := by
    by_cases h : c ∈ X g
    · obtain ⟨b, e, hb⟩ := main true (fun _ => rc_kid h) (fun _ => rfl)
      refine ⟨b, ?_, hb⟩
      simp only [f_M_isUnder_23, f_M_isUnder_32, Option.bind_some, is_0, gr_0_0, gr_0_1, gr_0_2, gr_0_3, gr_0_4, gr_0_5, gi_tp, pi_tp, gi_tf, pi_tf, gi_xf, pi_xf, is_1, gr_1_0, gr_1_1, gi_en, pi_en, is_4, gr_4_0, gr_4_1, gr_4_2, gr_4_3, gi_gn, pi_gn, is_9, gr_9_0, gr_9_1, gi_ts, pi_ts, gi_tw, pi_tw, gi_tc, pi_tc, is_40, gr_40_0, is_42, gr_42_0, gr_42_1, gi_dn, pi_dn, is_45, gr_45_0, gr_45_1, gi_xw, pi_xw, gi_xn, pi_xn, gi_xt, pi_xt, is_59, gi_mco, pi_mco, gi_mev, pi_mev, gr_59_2, gr_59_3, gi_mgt, pi_mgt, gr_59_5, gr_59_6, gr_59_7, gr_59_8, gi_mtp, pi_mtp, gr_59_10, gr_59_11, gr_59_12, gr_59_13, gr_59_14, gr_59_15, gi_mmy, pi_mmy, gr_59_17, gr_59_18, hch g (by omega), decide_eq_true h, b32_0, Bool.true_eq_false, if_false]
      exact e
    · obtain ⟨b, e, hb⟩ := main false (fun h => Bool.noConfusion h) (fun h' => absurd h' h)
      refine ⟨b, ?_, hb⟩
      simp only [f_M_isUnder_23, f_M_isUnder_32, Option.bind_some, is_0, gr_0_0, gr_0_1, gr_0_2, gr_0_3, gr_0_4, gr_0_5, gi_tp, pi_tp, gi_tf, pi_tf, gi_xf, pi_xf, is_1, gr_1_0, gr_1_1, gi_en, pi_en, is_4, gr_4_0, gr_4_1, gr_4_2, gr_4_3, gi_gn, pi_gn, is_9, gr_9_0, gr_9_1, gi_ts, pi_ts, gi_tw, pi_tw, gi_tc, pi_tc, is_40, gr_40_0, is_42, gr_42_0, gr_42_1, gi_dn, pi_dn, is_45, gr_45_0, gr_45_1, gi_xw, pi_xw, gi_xn, pi_xn, gi_xt, pi_xt, is_59, gi_mco, pi_mco, gi_mev, pi_mev, gr_59_2, gr_59_3, gi_mgt, pi_mgt, gr_59_5, gr_59_6, gr_59_7, gr_59_8, gi_mtp, pi_mtp, gr_59_10, gr_59_11, gr_59_12, gr_59_13, gr_59_14, gr_59_15, gi_mmy, pi_mmy, gr_59_17, gr_59_18, hch g (by omega), decide_eq_false h, b32_0, if_true]
      exact e
  by_cases h16 : c < 16
  · obtain ⟨b, e, hb⟩ := m23
    refine ⟨b, ?_, hb⟩
    simp only [f_M_isUnder, nl_lt (show c < 2147483648 by omega) (show 16 < 2147483648 by omega), if_pos h16]
    exact e
  · have hbr := B.b (show g < 12 by omega) (show c - 16 < 12 by omega)
    have ei : 12 * g + c - 16 = 12 * g + (c - 16) := by omega
    have ec : 16 + (c - 16) = c := by omega
    rw [ec] at hbr
    by_cases h : rc X g c
    · obtain ⟨b, e, hb⟩ := main true (fun _ => h) (fun _ => rfl)
      refine ⟨b, ?_, hb⟩
      simp only [f_M_isUnder, f_M_isUnder_32, Option.bind_some, is_0, gr_0_0, gr_0_1, gr_0_2, gr_0_3, gr_0_4, gr_0_5, gi_tp, pi_tp, gi_tf, pi_tf, gi_xf, pi_xf, is_1, gr_1_0, gr_1_1, gi_en, pi_en, is_4, gr_4_0, gr_4_1, gr_4_2, gr_4_3, gi_gn, pi_gn, is_9, gr_9_0, gr_9_1, gi_ts, pi_ts, gi_tw, pi_tw, gi_tc, pi_tc, is_40, gr_40_0, is_42, gr_42_0, gr_42_1, gi_dn, pi_dn, is_45, gr_45_0, gr_45_1, gi_xw, pi_xw, gi_xn, pi_xn, gi_xt, pi_xt, is_59, gi_mco, pi_mco, gi_mev, pi_mev, gr_59_2, gr_59_3, gi_mgt, pi_mgt, gr_59_5, gr_59_6, gr_59_7, gr_59_8, gi_mtp, pi_mtp, gr_59_10, gr_59_11, gr_59_12, gr_59_13, gr_59_14, gr_59_15, gi_mmy, pi_mmy, gr_59_17, gr_59_18, nl_lt (show c < 2147483648 by omega) (show 16 < 2147483648 by omega), if_neg h16, ln_mul, n32_add, nl_sub (show 16 ≤ 12 * g + c by omega), ei, rd_mbl (show 12 * g + (c - 16) < 144 by omega), if_neg (fun q => hbr.mp q h)]
      exact e
    · obtain ⟨b, e, hb⟩ := m23
      refine ⟨b, ?_, hb⟩
      simp only [f_M_isUnder, f_M_isUnder_32, Option.bind_some, is_0, gr_0_0, gr_0_1, gr_0_2, gr_0_3, gr_0_4, gr_0_5, gi_tp, pi_tp, gi_tf, pi_tf, gi_xf, pi_xf, is_1, gr_1_0, gr_1_1, gi_en, pi_en, is_4, gr_4_0, gr_4_1, gr_4_2, gr_4_3, gi_gn, pi_gn, is_9, gr_9_0, gr_9_1, gi_ts, pi_ts, gi_tw, pi_tw, gi_tc, pi_tc, is_40, gr_40_0, is_42, gr_42_0, gr_42_1, gi_dn, pi_dn, is_45, gr_45_0, gr_45_1, gi_xw, pi_xw, gi_xn, pi_xn, gi_xt, pi_xt, is_59, gi_mco, pi_mco, gi_mev, pi_mev, gr_59_2, gr_59_3, gi_mgt, pi_mgt, gr_59_5, gr_59_6, gr_59_7, gr_59_8, gi_mtp, pi_mtp, gr_59_10, gr_59_11, gr_59_12, gr_59_13, gr_59_14, gr_59_15, gi_mmy, pi_mmy, gr_59_17, gr_59_18, nl_lt (show c < 2147483648 by omega) (show 16 < 2147483648 by omega), if_neg h16, ln_mul, n32_add, nl_sub (show 16 ≤ 12 * g + c by omega), ei, rd_mbl (show 12 * g + (c - 16) < 144 by omega), if_pos (hbr.mpr h)]
      exact e
/-- the children of one gate -/
theorem M_mod145 {X : Nat → List Nat} {ng g k : Nat} (hng : ng ≤ 12) (hg : g < ng) (hk : k < ng) (hN : S.1 59 4 = n32 ng) (hl : ∀ g, (X g).length ≤ 4) (hX : ∀ g c, c ∈ X g → g < ng ∧ (c < 16 ∨ 16 ≤ c ∧ c < 16 + ng)) (K : KM S X) (B : BR S (fun i h => rc X i (16 + h))) (hfu : 200 ≤ fu) (k33 : Nat → Int32 → Int32 → List va_E → Option (Int32 × List va_E)) (k75 : Nat → Int32 → Int32 → Int32 → Int32 → List va_E → Option (Int32 × List va_E)) (x : Int32) (a0 o : Bool) : ∃ a : Bool, f_M_modules_137 fu k33 k75 59 x (n32 g) (b32 a0) (n32 k) (b32 o) (enc S) = k75 59 x (n32 g) (b32 a) (n32 (k + 1)) (enc S) ∧ (a = true ↔ (a0 = true ∧ (o = true → ∀ c, c ∈ X k → ¬ rc X g c))) := by
  have hlk := hl k
  have Kk := K k (by omega)
  obtain ⟨a, ha, m, e⟩ := lp0 (F := fun n j a => f_M_modules_145 fu k33 k75 n 59 x (n32 g) (b32 a) (n32 k) (b32 o) (n32 (4 * k + j)) (enc S)) (I := fun j a => a = true ↔ (a0 = true ∧ (o = true → ∀ c, c ∈ (X k).take j → ¬ rc X g c))) (N := (X k).length) (n := fu) (s := a0) (by omega) (by simp) (fun n j a hj hI => by
    have hle : ¬ n32 (4 * k + (X k).length) ≤ n32 (4 * k + j) := by rw [n32_le (by omega) (by omega)]; omega
    have hcX := hX k _ (List.getElem_mem hj)
    obtain ⟨b, eb, hb⟩ := M_isUnder (fu := fu) (S := S) (X := X) (ng := ng) (g := g) (c := (X k)[j]) hng hg (by omega) hN hl hX K B hfu
    cases ha : a with
    | false =>
      have hno : ¬ (a0 = true ∧ (o = true → ∀ c, c ∈ (X k).take j → ¬ rc X g c)) := fun h => by rw [hI.mpr h] at ha; cases ha
      refine ⟨false, ⟨fun h => Bool.noConfusion h, fun h => absurd ⟨h.1, fun h1 c hc => h.2 h1 c ((take_mem hj).mpr (Or.inl hc))⟩ hno⟩, ?_⟩
      simp only [f_M_modules_145, f_M_modules_190, f_M_modules_191, Option.bind_some, is_0, gr_0_0, gr_0_1, gr_0_2, gr_0_3, gr_0_4, gr_0_5, gi_tp, pi_tp, gi_tf, pi_tf, gi_xf, pi_xf, is_1, gr_1_0, gr_1_1, gi_en, pi_en, is_4, gr_4_0, gr_4_1, gr_4_2, gr_4_3, gi_gn, pi_gn, is_9, gr_9_0, gr_9_1, gi_ts, pi_ts, gi_tw, pi_tw, gi_tc, pi_tc, is_40, gr_40_0, is_42, gr_42_0, gr_42_1, gi_dn, pi_dn, is_45, gr_45_0, gr_45_1, gi_xw, pi_xw, gi_xn, pi_xn, gi_xt, pi_xt, is_59, gi_mco, pi_mco, gi_mev, pi_mev, gr_59_2, gr_59_3, gi_mgt, pi_mgt, gr_59_5, gr_59_6, gr_59_7, gr_59_8, gi_mtp, pi_mtp, gr_59_10, gr_59_11, gr_59_12, gr_59_13, gr_59_14, gr_59_15, gi_mmy, pi_mmy, gr_59_17, gr_59_18, rd_mct (show k < 12 by omega), Kk.1, ln_mul, n32_add, if_neg hle, b32_0, if_true, nl_add, Nat.add_assoc]
      rfl
    | true =>
      have hyes := hI.mp ha
      cases ho : o with
      | false =>
        refine ⟨true, ⟨fun _ => ⟨hyes.1, fun h => Bool.noConfusion h⟩, fun _ => rfl⟩, ?_⟩
        simp only [f_M_modules_145, f_M_modules_186, f_M_modules_191, Option.bind_some, is_0, gr_0_0, gr_0_1, gr_0_2, gr_0_3, gr_0_4, gr_0_5, gi_tp, pi_tp, gi_tf, pi_tf, gi_xf, pi_xf, is_1, gr_1_0, gr_1_1, gi_en, pi_en, is_4, gr_4_0, gr_4_1, gr_4_2, gr_4_3, gi_gn, pi_gn, is_9, gr_9_0, gr_9_1, gi_ts, pi_ts, gi_tw, pi_tw, gi_tc, pi_tc, is_40, gr_40_0, is_42, gr_42_0, gr_42_1, gi_dn, pi_dn, is_45, gr_45_0, gr_45_1, gi_xw, pi_xw, gi_xn, pi_xn, gi_xt, pi_xt, is_59, gi_mco, pi_mco, gi_mev, pi_mev, gr_59_2, gr_59_3, gi_mgt, pi_mgt, gr_59_5, gr_59_6, gr_59_7, gr_59_8, gi_mtp, pi_mtp, gr_59_10, gr_59_11, gr_59_12, gr_59_13, gr_59_14, gr_59_15, gi_mmy, pi_mmy, gr_59_17, gr_59_18, rd_mct (show k < 12 by omega), Kk.1, ln_mul, n32_add, if_neg hle, b32_0, Bool.true_eq_false, if_false, if_true, nl_add, Nat.add_assoc]
        rfl
      | true =>
        cases hbb : b with
        | false =>
          have hnr : ¬ rc X g ((X k)[j]) := fun h => by rw [hb.mpr h] at hbb; cases hbb
          refine ⟨true, ⟨fun _ => ⟨hyes.1, fun _ c hc => ?_⟩, fun _ => rfl⟩, ?_⟩
          · rcases (take_mem hj).mp hc with h | h
            · exact hyes.2 ho c h
            · rw [h]; exact hnr
          · simp only [f_M_modules_145, f_M_modules_186, f_M_modules_191, Option.bind_some, is_0, gr_0_0, gr_0_1, gr_0_2, gr_0_3, gr_0_4, gr_0_5, gi_tp, pi_tp, gi_tf, pi_tf, gi_xf, pi_xf, is_1, gr_1_0, gr_1_1, gi_en, pi_en, is_4, gr_4_0, gr_4_1, gr_4_2, gr_4_3, gi_gn, pi_gn, is_9, gr_9_0, gr_9_1, gi_ts, pi_ts, gi_tw, pi_tw, gi_tc, pi_tc, is_40, gr_40_0, is_42, gr_42_0, gr_42_1, gi_dn, pi_dn, is_45, gr_45_0, gr_45_1, gi_xw, pi_xw, gi_xn, pi_xn, gi_xt, pi_xt, is_59, gi_mco, pi_mco, gi_mev, pi_mev, gr_59_2, gr_59_3, gi_mgt, pi_mgt, gr_59_5, gr_59_6, gr_59_7, gr_59_8, gi_mtp, pi_mtp, gr_59_10, gr_59_11, gr_59_12, gr_59_13, gr_59_14, gr_59_15, gi_mmy, pi_mmy, gr_59_17, gr_59_18, rd_mct (show k < 12 by omega), Kk.1, ln_mul, n32_add, if_neg hle, b32_0, Bool.true_eq_false, if_false, rd_mki (show 4 * k + j < 48 by omega), Kk.2 j hj, eb, hbb, if_true, nl_add, Nat.add_assoc]
            rfl
        | true =>
          refine ⟨false, ⟨fun h => Bool.noConfusion h, fun h => absurd (hb.mp hbb) (h.2 rfl _ ((take_mem hj).mpr (Or.inr rfl)))⟩, ?_⟩
          simp only [f_M_modules_145, f_M_modules_186, f_M_modules_190, f_M_modules_191, Option.bind_some, is_0, gr_0_0, gr_0_1, gr_0_2, gr_0_3, gr_0_4, gr_0_5, gi_tp, pi_tp, gi_tf, pi_tf, gi_xf, pi_xf, is_1, gr_1_0, gr_1_1, gi_en, pi_en, is_4, gr_4_0, gr_4_1, gr_4_2, gr_4_3, gi_gn, pi_gn, is_9, gr_9_0, gr_9_1, gi_ts, pi_ts, gi_tw, pi_tw, gi_tc, pi_tc, is_40, gr_40_0, is_42, gr_42_0, gr_42_1, gi_dn, pi_dn, is_45, gr_45_0, gr_45_1, gi_xw, pi_xw, gi_xn, pi_xn, gi_xt, pi_xt, is_59, gi_mco, pi_mco, gi_mev, pi_mev, gr_59_2, gr_59_3, gi_mgt, pi_mgt, gr_59_5, gr_59_6, gr_59_7, gr_59_8, gi_mtp, pi_mtp, gr_59_10, gr_59_11, gr_59_12, gr_59_13, gr_59_14, gr_59_15, gi_mmy, pi_mmy, gr_59_17, gr_59_18, rd_mct (show k < 12 by omega), Kk.1, ln_mul, n32_add, if_neg hle, b32_0, Bool.true_eq_false, if_false, rd_mki (show 4 * k + j < 48 by omega), Kk.2 j hj, eb, hbb, nl_add, Nat.add_assoc]
          rfl)
  rw [List.take_length] at ha
  refine ⟨a, ?_, ha⟩
  have e0 : f_M_modules_137 fu k33 k75 59 x (n32 g) (b32 a0) (n32 k) (b32 o) (enc S) = f_M_modules_145 fu k33 k75 fu 59 x (n32 g) (b32 a0) (n32 k) (b32 o) (n32 (4 * k + 0)) (enc S) := by
    simp only [f_M_modules_137, ln_mul]; rfl
  rw [e0]
  refine Eq.trans e ?_
  simp only [f_M_modules_145, Option.bind_some, is_0, gr_0_0, gr_0_1, gr_0_2, gr_0_3, gr_0_4, gr_0_5, gi_tp, pi_tp, gi_tf, pi_tf, gi_xf, pi_xf, is_1, gr_1_0, gr_1_1, gi_en, pi_en, is_4, gr_4_0, gr_4_1, gr_4_2, gr_4_3, gi_gn, pi_gn, is_9, gr_9_0, gr_9_1, gi_ts, pi_ts, gi_tw, pi_tw, gi_tc, pi_tc, is_40, gr_40_0, is_42, gr_42_0, gr_42_1, gi_dn, pi_dn, is_45, gr_45_0, gr_45_1, gi_xw, pi_xw, gi_xn, pi_xn, gi_xt, pi_xt, is_59, gi_mco, pi_mco, gi_mev, pi_mev, gr_59_2, gr_59_3, gi_mgt, pi_mgt, gr_59_5, gr_59_6, gr_59_7, gr_59_8, gi_mtp, pi_mtp, gr_59_10, gr_59_11, gr_59_12, gr_59_13, gr_59_14, gr_59_15, gi_mmy, pi_mmy, gr_59_17, gr_59_18, rd_mct (show k < 12 by omega), Kk.1, ln_mul, n32_add, if_pos (show n32 (4 * k + (X k).length) ≤ n32 (4 * k + (X k).length) from (n32_le (by omega) (by omega)).mpr (Nat.le_refl _)), nl_add]
end
