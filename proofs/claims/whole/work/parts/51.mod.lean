/-! modules -/
section
variable {fu : Nat} {S : Ws} {A : Ab} {r : Nat → Nat}
theorem rc_last {X : Nat → List Nat} {g c : Nat} : rc X g c ↔ (c ∈ X g ∨ ∃ k, rc X g (16 + k) ∧ c ∈ X k) := by
  constructor
  · intro h
    refine rc_ind (P := fun g c => c ∈ X g ∨ ∃ k, rc X g (16 + k) ∧ c ∈ X k) (fun _ _ h => Or.inl h) (fun g h c h1 _ ih => ?_) h
    rcases ih with ih | ⟨k, i1, i2⟩
    · exact Or.inr ⟨h, rc_kid h1, ih⟩
    · exact Or.inr ⟨k, rc_step h1 i1, i2⟩
  · rintro (h | ⟨k, h1, h2⟩)
    · exact rc_kid h
    · exact rc_tr h1 (rc_kid h2)
/-- a gate that the top reaches, and that nothing outside reaches into -/
def isMod (X : Nat → List Nat) (ng t g : Nat) : Prop := (g = t ∨ rc X t (16 + g)) ∧ ∀ k, k < ng → ((k = t ∨ rc X t (16 + k)) ∧ k ≠ g ∧ ¬ rc X g (16 + k)) → ∀ c, c ∈ X k → ¬ rc X g c
theorem G_alone16 {ng g : Nat} (hng : ng ≤ 12) (hg : g < 12) (hN : S.1 4 4 = n32 ng) (out : Int32) : ∀ (m n j : Nat), j + m = ng → m < n → ∃ b : Bool, f_G_standsAlone_16 fu n 4 (n32 g) out (n32 j) (enc S) = some (b32 b, enc S) ∧ (b = true ↔ ∀ k, j ≤ k → k < ng → bt out (16 + k) = true → S.2.1 7 k &&& S.2.1 8 g = 0)
  | m, 0, _, _, h => absurd h (by omega)
  | 0, n + 1, j, hj, _ => by
    refine ⟨true, ?_, fun _ k h1 h2 => absurd h1 (by omega), fun _ => rfl⟩
    simp only [f_G_standsAlone_16, Option.bind_some, is_0, gr_0_0, gr_0_1, gr_0_2, gr_0_3, gr_0_4, gr_0_5, gi_tp, pi_tp, gi_tf, pi_tf, gi_xf, pi_xf, is_1, gr_1_0, gr_1_1, gi_en, pi_en, is_4, gr_4_0, gr_4_1, gr_4_2, gr_4_3, gi_gn, pi_gn, is_9, gr_9_0, gr_9_1, gi_ts, pi_ts, gi_tw, pi_tw, gi_tc, pi_tc, is_40, gr_40_0, is_42, gr_42_0, gr_42_1, gi_dn, pi_dn, is_45, gr_45_0, gr_45_1, gi_xw, pi_xw, gi_xn, pi_xn, gi_xt, pi_xt, is_59, gi_mco, pi_mco, gi_mev, pi_mev, gr_59_2, gr_59_3, gi_mgt, pi_mgt, gr_59_5, gr_59_6, gr_59_7, gr_59_8, gi_mtp, pi_mtp, gr_59_10, gr_59_11, gr_59_12, gr_59_13, gr_59_14, gr_59_15, gi_mmy, pi_mmy, gr_59_17, gr_59_18, hN, if_pos (show n32 ng ≤ n32 j from (n32_le (by omega) (by omega)).mpr (by omega)), or_true, if_true]
    rfl
  | m + 1, n + 1, j, hj, hn => by
    obtain ⟨b, e, hb⟩ := G_alone16 hng hg hN out m n (j + 1) (by omega) (by omega)
    have hle : ¬ n32 ng ≤ n32 j := by rw [n32_le (by omega) (by omega)]; omega
    have hstep : ∀ q : bt out (16 + j) = true → S.2.1 7 j &&& S.2.1 8 g = 0, (b = true ↔ ∀ k, j ≤ k → k < ng → bt out (16 + k) = true → S.2.1 7 k &&& S.2.1 8 g = 0) := fun q => by
      rw [hb]
      refine ⟨fun h k h1 h2 h3 => ?_, fun h k h1 h2 h3 => h k (by omega) h2 h3⟩
      by_cases hk : k = j
      · subst hk; exact q h3
      · exact h k (by omega) h2 h3
    cases ho : bt out (16 + j) with
    | false =>
      refine ⟨b, ?_, hstep (fun h => by rw [ho] at h; cases h)⟩
      simp only [f_G_standsAlone_16, f_G_standsAlone_56, Option.bind_some, is_0, gr_0_0, gr_0_1, gr_0_2, gr_0_3, gr_0_4, gr_0_5, gi_tp, pi_tp, gi_tf, pi_tf, gi_xf, pi_xf, is_1, gr_1_0, gr_1_1, gi_en, pi_en, is_4, gr_4_0, gr_4_1, gr_4_2, gr_4_3, gi_gn, pi_gn, is_9, gr_9_0, gr_9_1, gi_ts, pi_ts, gi_tw, pi_tw, gi_tc, pi_tc, is_40, gr_40_0, is_42, gr_42_0, gr_42_1, gi_dn, pi_dn, is_45, gr_45_0, gr_45_1, gi_xw, pi_xw, gi_xn, pi_xn, gi_xt, pi_xt, is_59, gi_mco, pi_mco, gi_mev, pi_mev, gr_59_2, gr_59_3, gi_mgt, pi_mgt, gr_59_5, gr_59_6, gr_59_7, gr_59_8, gi_mtp, pi_mtp, gr_59_10, gr_59_11, gr_59_12, gr_59_13, gr_59_14, gr_59_15, gi_mmy, pi_mmy, gr_59_17, gr_59_18, hN, if_neg hle, ln_add, ts_0 (show 16 + j < 32 by omega), ho, if_true, nl_add]
      exact e
    | true =>
      by_cases hz : S.2.1 7 j &&& S.2.1 8 g = 0
      · refine ⟨b, ?_, hstep (fun _ => hz)⟩
        simp only [f_G_standsAlone_16, f_G_standsAlone_56, Option.bind_some, is_0, gr_0_0, gr_0_1, gr_0_2, gr_0_3, gr_0_4, gr_0_5, gi_tp, pi_tp, gi_tf, pi_tf, gi_xf, pi_xf, is_1, gr_1_0, gr_1_1, gi_en, pi_en, is_4, gr_4_0, gr_4_1, gr_4_2, gr_4_3, gi_gn, pi_gn, is_9, gr_9_0, gr_9_1, gi_ts, pi_ts, gi_tw, pi_tw, gi_tc, pi_tc, is_40, gr_40_0, is_42, gr_42_0, gr_42_1, gi_dn, pi_dn, is_45, gr_45_0, gr_45_1, gi_xw, pi_xw, gi_xn, pi_xn, gi_xt, pi_xt, is_59, gi_mco, pi_mco, gi_mev, pi_mev, gr_59_2, gr_59_3, gi_mgt, pi_mgt, gr_59_5, gr_59_6, gr_59_7, gr_59_8, gi_mtp, pi_mtp, gr_59_10, gr_59_11, gr_59_12, gr_59_13, gr_59_14, gr_59_15, gi_mmy, pi_mmy, gr_59_17, gr_59_18, hN, if_neg hle, ln_add, ts_0 (show 16 + j < 32 by omega), ho, Bool.true_eq_false, if_false, rd_gc (show j < 12 by omega), rd_gb hg, if_pos hz, nl_add]
        exact e
      · refine ⟨false, ?_, fun h => Bool.noConfusion h, fun h => absurd (h j (Nat.le_refl _) (by omega) ho) hz⟩
        simp only [f_G_standsAlone_16, f_G_standsAlone_56, Option.bind_some, is_0, gr_0_0, gr_0_1, gr_0_2, gr_0_3, gr_0_4, gr_0_5, gi_tp, pi_tp, gi_tf, pi_tf, gi_xf, pi_xf, is_1, gr_1_0, gr_1_1, gi_en, pi_en, is_4, gr_4_0, gr_4_1, gr_4_2, gr_4_3, gi_gn, pi_gn, is_9, gr_9_0, gr_9_1, gi_ts, pi_ts, gi_tw, pi_tw, gi_tc, pi_tc, is_40, gr_40_0, is_42, gr_42_0, gr_42_1, gi_dn, pi_dn, is_45, gr_45_0, gr_45_1, gi_xw, pi_xw, gi_xn, pi_xn, gi_xt, pi_xt, is_59, gi_mco, pi_mco, gi_mev, pi_mev, gr_59_2, gr_59_3, gi_mgt, pi_mgt, gr_59_5, gr_59_6, gr_59_7, gr_59_8, gi_mtp, pi_mtp, gr_59_10, gr_59_11, gr_59_12, gr_59_13, gr_59_14, gr_59_15, gi_mmy, pi_mmy, gr_59_17, gr_59_18, hN, if_neg hle, ln_add, ts_0 (show 16 + j < 32 by omega), ho, Bool.true_eq_false, if_false, rd_gc (show j < 12 by omega), rd_gb hg, if_neg hz, true_or, if_true]
        rfl
theorem and_z {x y : Int32} : x &&& y = 0 ↔ ∀ c, c < 32 → ¬ (bt x c = true ∧ bt y c = true) := by
  constructor
  · intro h c _ hc
    have := congrArg (fun z => bt z c) h
    simp only [bt_and, bt_0, hc.1, hc.2] at this
    exact absurd this (by decide)
  · intro h
    apply bt_ext; intro c hc
    rw [bt_and, bt_0]
    cases h1 : bt x c <;> cases h2 : bt y c <;> simp
    exact absurd ⟨h1, h2⟩ (h c hc)
theorem G_mods (O : Ok A r) (D : RD S A) {t : Nat} (ht : t < aG A) (hfu : 200 ≤ fu) : ∃ x, f_G_moduleSum fu 4 (n32 t) (enc S) = some (x, enc S) ∧ ∀ y, y < 32 → (bt x y = true ↔ (y < aG A ∧ isMod (aX A) (aG A) t y)) := by
  have hG := O.2.1
  obtain ⟨d1, d2, d3, d4, d5, d6, d7, d8⟩ := D
  obtain ⟨re, e1, h1⟩ := G_wb (fu := fu) (S := S) (R := rc (aX A)) (fun i hi y hy => (d5 i hi y hy).2) (c := 16 + t) (by omega)
  have hre : ∀ k, k < 12 → (bt re (16 + k) = true ↔ (k = t ∨ rc (aX A) t (16 + k))) := fun k hk => by
    rw [h1 (16 + k) (by omega)]
    constructor
    · rintro (h | ⟨h, e, h'⟩)
      · exact Or.inl (by omega)
      · obtain rfl : h = t := by omega
        exact Or.inr h'
    · rintro (h | h)
      · exact Or.inl (by omega)
      · exact Or.inr ⟨t, rfl, h⟩
  obtain ⟨x, hx, m, e⟩ := lp0 (F := fun n j x => f_G_moduleSum_14 fu n 4 re x (n32 j) (enc S)) (I := fun j x => ∀ y, y < 32 → (bt x y = true ↔ (y < j ∧ isMod (aX A) (aG A) t y))) (N := aG A) (n := fu) (s := (0 : Int32)) (by omega) (fun y hy => by rw [bt_0]; simp) (fun n j x hj hI => by
    have hle : ¬ n32 (aG A) ≤ n32 j := by rw [n32_le (by omega) (by omega)]; omega
    obtain ⟨wj, e2, h2⟩ := G_wb (fu := fu) (S := S) (R := rc (aX A)) (fun i hi y hy => (d5 i hi y hy).2) (c := 16 + j) (by omega)
    obtain ⟨b, e3, h3⟩ := G_alone16 (fu := fu) (S := S) (ng := aG A) (g := j) hG (by omega) d3 (re &&& (wj ^^^ (-1 : Int32))) (aG A) fu 0 (by omega) (by omega)
    have hb : b = true ↔ ∀ k, k < aG A → ((k = t ∨ rc (aX A) t (16 + k)) ∧ k ≠ j ∧ ¬ rc (aX A) j (16 + k)) → ∀ c, c ∈ aX A k → ¬ rc (aX A) j c := by
      rw [h3]
      have ho : ∀ k, k < 12 → (bt (re &&& (wj ^^^ (-1 : Int32))) (16 + k) = true ↔ ((k = t ∨ rc (aX A) t (16 + k)) ∧ k ≠ j ∧ ¬ rc (aX A) j (16 + k))) := fun k hk => by
        rw [bt_and, bt_xor, bt_m1 _ (by omega), Bool.and_eq_true, hre k hk]
        have hw : bt wj (16 + k) = true ↔ (k = j ∨ rc (aX A) j (16 + k)) := by
          rw [h2 (16 + k) (by omega)]
          constructor
          · rintro (h | ⟨h, e, h'⟩)
            · exact Or.inl (by omega)
            · obtain rfl : h = j := by omega
              exact Or.inr h'
          · rintro (h | h)
            · exact Or.inl (by omega)
            · exact Or.inr ⟨j, rfl, h⟩
        cases hq : bt wj (16 + k) with
        | true =>
          have := hw.mp hq
          refine ⟨fun h => absurd h.2 (by decide), fun h => absurd this ?_⟩
          rintro (h' | h')
          · exact h.2.1 h'
          · exact h.2.2 h'
        | false =>
          have : ¬ (k = j ∨ rc (aX A) j (16 + k)) := fun h => by rw [hw.mpr h] at hq; cases hq
          exact ⟨fun h => ⟨h.1, fun q => this (Or.inl q), fun q => this (Or.inr q)⟩, fun h => ⟨h.1, rfl⟩⟩
      constructor
      · intro h k hk ho' c hc hr
        have := and_z.mp (h k (by omega) hk ((ho k (by omega)).mpr ho')) c (by have := O.lt28 hc; omega)
        exact this ⟨(d5 k (by omega) c (by have := O.lt28 hc; omega)).1.mpr hc, (d5 j (by omega) c (by have := O.lt28 hc; omega)).2.mpr hr⟩
      · intro h k _ hk ho'
        refine and_z.mpr (fun c hc hq => ?_)
        exact h k hk ((ho k (by omega)).mp ho') c ((d5 k (by omega) c hc).1.mp hq.1) ((d5 j (by omega) c hc).2.mp hq.2)
    have hal : f_G_standsAlone fu 4 (n32 j) re (enc S) = some (b32 b, enc S) := by
      simp only [f_G_standsAlone, Option.bind_some, is_0, gr_0_0, gr_0_1, gr_0_2, gr_0_3, gr_0_4, gr_0_5, gi_tp, pi_tp, gi_tf, pi_tf, gi_xf, pi_xf, is_1, gr_1_0, gr_1_1, gi_en, pi_en, is_4, gr_4_0, gr_4_1, gr_4_2, gr_4_3, gi_gn, pi_gn, is_9, gr_9_0, gr_9_1, gi_ts, pi_ts, gi_tw, pi_tw, gi_tc, pi_tc, is_40, gr_40_0, is_42, gr_42_0, gr_42_1, gi_dn, pi_dn, is_45, gr_45_0, gr_45_1, gi_xw, pi_xw, gi_xn, pi_xn, gi_xt, pi_xt, is_59, gi_mco, pi_mco, gi_mev, pi_mev, gr_59_2, gr_59_3, gi_mgt, pi_mgt, gr_59_5, gr_59_6, gr_59_7, gr_59_8, gi_mtp, pi_mtp, gr_59_10, gr_59_11, gr_59_12, gr_59_13, gr_59_14, gr_59_15, gi_mmy, pi_mmy, gr_59_17, gr_59_18, ln_add, e2]
      exact e3
    have nx : ∀ q : Prop, (q ↔ isMod (aX A) (aG A) t j) → ¬ q → ∀ y, y < 32 → (bt x y = true ↔ (y < j + 1 ∧ isMod (aX A) (aG A) t y)) := fun q hq hn y hy => by
      rw [hI y hy]
      constructor
      · exact fun h => ⟨by omega, h.2⟩
      · intro h
        refine ⟨?_, h.2⟩
        by_cases hyj : y = j
        · subst hyj; exact absurd (hq.mpr h.2) hn
        · omega
    cases hr : bt re (16 + j) with
    | false =>
      refine ⟨x, nx False ⟨False.elim, fun h => by rw [(hre j (by omega)).mpr h.1] at hr; cases hr⟩ id, ?_⟩
      simp only [f_G_moduleSum_14, f_G_moduleSum_52, Option.bind_some, is_0, gr_0_0, gr_0_1, gr_0_2, gr_0_3, gr_0_4, gr_0_5, gi_tp, pi_tp, gi_tf, pi_tf, gi_xf, pi_xf, is_1, gr_1_0, gr_1_1, gi_en, pi_en, is_4, gr_4_0, gr_4_1, gr_4_2, gr_4_3, gi_gn, pi_gn, is_9, gr_9_0, gr_9_1, gi_ts, pi_ts, gi_tw, pi_tw, gi_tc, pi_tc, is_40, gr_40_0, is_42, gr_42_0, gr_42_1, gi_dn, pi_dn, is_45, gr_45_0, gr_45_1, gi_xw, pi_xw, gi_xn, pi_xn, gi_xt, pi_xt, is_59, gi_mco, pi_mco, gi_mev, pi_mev, gr_59_2, gr_59_3, gi_mgt, pi_mgt, gr_59_5, gr_59_6, gr_59_7, gr_59_8, gi_mtp, pi_mtp, gr_59_10, gr_59_11, gr_59_12, gr_59_13, gr_59_14, gr_59_15, gi_mmy, pi_mmy, gr_59_17, gr_59_18, d3, if_neg hle, ln_add, ts_0 (show 16 + j < 32 by omega), hr, if_true, nl_add]
    | true =>
      cases hbb : b with
      | false =>
        refine ⟨x, nx False ⟨False.elim, fun h => by rw [hb.mpr h.2] at hbb; cases hbb⟩ id, ?_⟩
        simp only [f_G_moduleSum_14, f_G_moduleSum_52, Option.bind_some, is_0, gr_0_0, gr_0_1, gr_0_2, gr_0_3, gr_0_4, gr_0_5, gi_tp, pi_tp, gi_tf, pi_tf, gi_xf, pi_xf, is_1, gr_1_0, gr_1_1, gi_en, pi_en, is_4, gr_4_0, gr_4_1, gr_4_2, gr_4_3, gi_gn, pi_gn, is_9, gr_9_0, gr_9_1, gi_ts, pi_ts, gi_tw, pi_tw, gi_tc, pi_tc, is_40, gr_40_0, is_42, gr_42_0, gr_42_1, gi_dn, pi_dn, is_45, gr_45_0, gr_45_1, gi_xw, pi_xw, gi_xn, pi_xn, gi_xt, pi_xt, is_59, gi_mco, pi_mco, gi_mev, pi_mev, gr_59_2, gr_59_3, gi_mgt, pi_mgt, gr_59_5, gr_59_6, gr_59_7, gr_59_8, gi_mtp, pi_mtp, gr_59_10, gr_59_11, gr_59_12, gr_59_13, gr_59_14, gr_59_15, gi_mmy, pi_mmy, gr_59_17, gr_59_18, d3, if_neg hle, ln_add, ts_0 (show 16 + j < 32 by omega), hr, Bool.true_eq_false, if_false, hal, b32_0, hbb, if_true, nl_add]
      | true =>
        refine ⟨x ||| ((1 : Int32) <<< (n32 j &&& 31)), fun y hy => ?_, ?_⟩
        · rw [bt_or, bt_shl (by omega) hy, Bool.or_eq_true, hI y hy, decide_eq_true_eq]
          constructor
          · rintro (h | rfl)
            · exact ⟨by omega, h.2⟩
            · exact ⟨by omega, (hre y (by omega)).mp hr, hb.mp hbb⟩
          · intro h
            by_cases hyj : y = j
            · exact Or.inr hyj
            · exact Or.inl ⟨by omega, h.2⟩
        · simp only [f_G_moduleSum_14, f_G_moduleSum_52, Option.bind_some, is_0, gr_0_0, gr_0_1, gr_0_2, gr_0_3, gr_0_4, gr_0_5, gi_tp, pi_tp, gi_tf, pi_tf, gi_xf, pi_xf, is_1, gr_1_0, gr_1_1, gi_en, pi_en, is_4, gr_4_0, gr_4_1, gr_4_2, gr_4_3, gi_gn, pi_gn, is_9, gr_9_0, gr_9_1, gi_ts, pi_ts, gi_tw, pi_tw, gi_tc, pi_tc, is_40, gr_40_0, is_42, gr_42_0, gr_42_1, gi_dn, pi_dn, is_45, gr_45_0, gr_45_1, gi_xw, pi_xw, gi_xn, pi_xn, gi_xt, pi_xt, is_59, gi_mco, pi_mco, gi_mev, pi_mev, gr_59_2, gr_59_3, gi_mgt, pi_mgt, gr_59_5, gr_59_6, gr_59_7, gr_59_8, gi_mtp, pi_mtp, gr_59_10, gr_59_11, gr_59_12, gr_59_13, gr_59_14, gr_59_15, gi_mmy, pi_mmy, gr_59_17, gr_59_18, d3, if_neg hle, ln_add, ts_0 (show 16 + j < 32 by omega), hr, Bool.true_eq_false, if_false, hal, b32_0, hbb, nl_add])
  refine ⟨x, ?_, hx⟩
  simp only [f_G_moduleSum, Option.bind_some, is_0, gr_0_0, gr_0_1, gr_0_2, gr_0_3, gr_0_4, gr_0_5, gi_tp, pi_tp, gi_tf, pi_tf, gi_xf, pi_xf, is_1, gr_1_0, gr_1_1, gi_en, pi_en, is_4, gr_4_0, gr_4_1, gr_4_2, gr_4_3, gi_gn, pi_gn, is_9, gr_9_0, gr_9_1, gi_ts, pi_ts, gi_tw, pi_tw, gi_tc, pi_tc, is_40, gr_40_0, is_42, gr_42_0, gr_42_1, gi_dn, pi_dn, is_45, gr_45_0, gr_45_1, gi_xw, pi_xw, gi_xn, pi_xn, gi_xt, pi_xt, is_59, gi_mco, pi_mco, gi_mev, pi_mev, gr_59_2, gr_59_3, gi_mgt, pi_mgt, gr_59_5, gr_59_6, gr_59_7, gr_59_8, gi_mtp, pi_mtp, gr_59_10, gr_59_11, gr_59_12, gr_59_13, gr_59_14, gr_59_15, gi_mmy, pi_mmy, gr_59_17, gr_59_18, ln_add, e1]
  refine Eq.trans e ?_
  simp only [f_G_moduleSum_14, Option.bind_some, is_0, gr_0_0, gr_0_1, gr_0_2, gr_0_3, gr_0_4, gr_0_5, gi_tp, pi_tp, gi_tf, pi_tf, gi_xf, pi_xf, is_1, gr_1_0, gr_1_1, gi_en, pi_en, is_4, gr_4_0, gr_4_1, gr_4_2, gr_4_3, gi_gn, pi_gn, is_9, gr_9_0, gr_9_1, gi_ts, pi_ts, gi_tw, pi_tw, gi_tc, pi_tc, is_40, gr_40_0, is_42, gr_42_0, gr_42_1, gi_dn, pi_dn, is_45, gr_45_0, gr_45_1, gi_xw, pi_xw, gi_xn, pi_xn, gi_xt, pi_xt, is_59, gi_mco, pi_mco, gi_mev, pi_mev, gr_59_2, gr_59_3, gi_mgt, pi_mgt, gr_59_5, gr_59_6, gr_59_7, gr_59_8, gi_mtp, pi_mtp, gr_59_10, gr_59_11, gr_59_12, gr_59_13, gr_59_14, gr_59_15, gi_mmy, pi_mmy, gr_59_17, gr_59_18, d3, if_pos (show n32 (aG A) ≤ n32 (aG A) from (n32_le (by omega) (by omega)).mpr (Nat.le_refl _))]
end
