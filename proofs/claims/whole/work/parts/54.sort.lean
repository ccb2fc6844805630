/-! the model's sort: may a gate be worked now -/
section
variable {fu : Nat} {S : Ws}
theorem M_sort63 {X : Nat → List Nat} {L : List Nat} {ng g len : Nat} (hng : ng ≤ 12) (hg : g < ng) (hN : S.1 59 4 = n32 ng) (B : BR S (fun i h => rc X i (16 + h))) (hR : ∀ k, k < ng → S.2.1 67 k = b32 (decide (k ∈ L))) (hfu : 200 ≤ fu) (k31 : Nat → Int32 → Int32 → List va_E → Option (List va_E)) (k41 : Nat → Int32 → Int32 → Int32 → List va_E → Option (List va_E)) (v2 : Int32) (b0 : Bool) (hlen : b0 = true → len < 12) : ∃ b : Bool, (b = true ↔ (b0 = true ∧ ∀ k, k < ng → rc X g (16 + k) → k ∈ L)) ∧ f_M_sort_63 fu k31 k41 59 (n32 len) v2 (n32 g) (b32 b0) (enc S) = (if b = true then k41 59 (n32 (len + 1)) v2 (n32 (g + 1)) (enc (sI (sI S 67 g 1) 68 len (n32 g))) else k41 59 (n32 len) v2 (n32 (g + 1)) (enc S)) := by
  obtain ⟨b, hb, m, e⟩ := lp0 (F := fun n j b => f_M_sort_68 fu k31 k41 n 59 (n32 len) v2 (n32 g) (b32 b) (n32 j) (enc S)) (I := fun j b => b = true ↔ (b0 = true ∧ ∀ k, k < j → rc X g (16 + k) → k ∈ L)) (N := ng) (n := fu) (s := b0) (by omega) (by simp) (fun n j b hj hI => by
    have hle : ¬ n32 ng ≤ n32 j := by rw [n32_le (by omega) (by omega)]; omega
    have hbr := B.b (show g < 12 by omega) (show j < 12 by omega)
    cases hb : b with
    | false =>
      have hno : ¬ (b0 = true ∧ ∀ k, k < j → rc X g (16 + k) → k ∈ L) := fun h => by rw [hI.mpr h] at hb; cases hb
      refine ⟨false, ⟨fun h => Bool.noConfusion h, fun h => absurd ⟨h.1, fun k hk => h.2 k (by omega)⟩ hno⟩, ?_⟩
      simp only [f_M_sort_68, f_M_sort_111, f_M_sort_112, Option.bind_some, is_0, gr_0_0, gr_0_1, gr_0_2, gr_0_3, gr_0_4, gr_0_5, gi_tp, pi_tp, gi_tf, pi_tf, gi_xf, pi_xf, is_1, gr_1_0, gr_1_1, gi_en, pi_en, is_4, gr_4_0, gr_4_1, gr_4_2, gr_4_3, gi_gn, pi_gn, is_9, gr_9_0, gr_9_1, gi_ts, pi_ts, gi_tw, pi_tw, gi_tc, pi_tc, is_40, gr_40_0, is_42, gr_42_0, gr_42_1, gi_dn, pi_dn, is_45, gr_45_0, gr_45_1, gi_xw, pi_xw, gi_xn, pi_xn, gi_xt, pi_xt, is_59, gi_mco, pi_mco, gi_mev, pi_mev, gr_59_2, gr_59_3, gi_mgt, pi_mgt, gr_59_5, gr_59_6, gr_59_7, gr_59_8, gi_mtp, pi_mtp, gr_59_10, gr_59_11, gr_59_12, gr_59_13, gr_59_14, gr_59_15, gi_mmy, pi_mmy, gr_59_17, gr_59_18, hN, if_neg hle, b32_0, if_true, nl_add]
      rfl
    | true =>
      have hyes := hI.mp hb
      by_cases h1 : rc X g (16 + j)
      · by_cases h2 : j ∈ L
        · refine ⟨true, ⟨fun _ => ⟨hyes.1, fun k hk hr => ?_⟩, fun _ => rfl⟩, ?_⟩
          · by_cases hkj : k = j
            · subst hkj; exact h2
            · exact hyes.2 k (by omega) hr
          · simp only [f_M_sort_68, f_M_sort_107, f_M_sort_111, f_M_sort_112, Option.bind_some, is_0, gr_0_0, gr_0_1, gr_0_2, gr_0_3, gr_0_4, gr_0_5, gi_tp, pi_tp, gi_tf, pi_tf, gi_xf, pi_xf, is_1, gr_1_0, gr_1_1, gi_en, pi_en, is_4, gr_4_0, gr_4_1, gr_4_2, gr_4_3, gi_gn, pi_gn, is_9, gr_9_0, gr_9_1, gi_ts, pi_ts, gi_tw, pi_tw, gi_tc, pi_tc, is_40, gr_40_0, is_42, gr_42_0, gr_42_1, gi_dn, pi_dn, is_45, gr_45_0, gr_45_1, gi_xw, pi_xw, gi_xn, pi_xn, gi_xt, pi_xt, is_59, gi_mco, pi_mco, gi_mev, pi_mev, gr_59_2, gr_59_3, gi_mgt, pi_mgt, gr_59_5, gr_59_6, gr_59_7, gr_59_8, gi_mtp, pi_mtp, gr_59_10, gr_59_11, gr_59_12, gr_59_13, gr_59_14, gr_59_15, gi_mmy, pi_mmy, gr_59_17, gr_59_18, hN, if_neg hle, b32_0, Bool.true_eq_false, if_false, ln_mul, n32_add, rd_mbl (show 12 * g + j < 144 by omega), if_neg (fun q => hbr.mp q h1), rd_mrd (show j < 12 by omega), hR j hj, decide_eq_true h2, nl_add]
            rfl
        · refine ⟨false, ⟨fun h => Bool.noConfusion h, fun h => absurd (h.2 j (by omega) h1) h2⟩, ?_⟩
          simp only [f_M_sort_68, f_M_sort_107, f_M_sort_111, f_M_sort_112, Option.bind_some, is_0, gr_0_0, gr_0_1, gr_0_2, gr_0_3, gr_0_4, gr_0_5, gi_tp, pi_tp, gi_tf, pi_tf, gi_xf, pi_xf, is_1, gr_1_0, gr_1_1, gi_en, pi_en, is_4, gr_4_0, gr_4_1, gr_4_2, gr_4_3, gi_gn, pi_gn, is_9, gr_9_0, gr_9_1, gi_ts, pi_ts, gi_tw, pi_tw, gi_tc, pi_tc, is_40, gr_40_0, is_42, gr_42_0, gr_42_1, gi_dn, pi_dn, is_45, gr_45_0, gr_45_1, gi_xw, pi_xw, gi_xn, pi_xn, gi_xt, pi_xt, is_59, gi_mco, pi_mco, gi_mev, pi_mev, gr_59_2, gr_59_3, gi_mgt, pi_mgt, gr_59_5, gr_59_6, gr_59_7, gr_59_8, gi_mtp, pi_mtp, gr_59_10, gr_59_11, gr_59_12, gr_59_13, gr_59_14, gr_59_15, gi_mmy, pi_mmy, gr_59_17, gr_59_18, hN, if_neg hle, b32_0, Bool.true_eq_false, if_false, ln_mul, n32_add, rd_mbl (show 12 * g + j < 144 by omega), if_neg (fun q => hbr.mp q h1), rd_mrd (show j < 12 by omega), hR j hj, decide_eq_false h2, if_true, nl_add]
          rfl
      · refine ⟨true, ⟨fun _ => ⟨hyes.1, fun k hk hr => ?_⟩, fun _ => rfl⟩, ?_⟩
        · by_cases hkj : k = j
          · subst hkj; exact absurd hr h1
          · exact hyes.2 k (by omega) hr
        · simp only [f_M_sort_68, f_M_sort_107, f_M_sort_111, f_M_sort_112, Option.bind_some, is_0, gr_0_0, gr_0_1, gr_0_2, gr_0_3, gr_0_4, gr_0_5, gi_tp, pi_tp, gi_tf, pi_tf, gi_xf, pi_xf, is_1, gr_1_0, gr_1_1, gi_en, pi_en, is_4, gr_4_0, gr_4_1, gr_4_2, gr_4_3, gi_gn, pi_gn, is_9, gr_9_0, gr_9_1, gi_ts, pi_ts, gi_tw, pi_tw, gi_tc, pi_tc, is_40, gr_40_0, is_42, gr_42_0, gr_42_1, gi_dn, pi_dn, is_45, gr_45_0, gr_45_1, gi_xw, pi_xw, gi_xn, pi_xn, gi_xt, pi_xt, is_59, gi_mco, pi_mco, gi_mev, pi_mev, gr_59_2, gr_59_3, gi_mgt, pi_mgt, gr_59_5, gr_59_6, gr_59_7, gr_59_8, gi_mtp, pi_mtp, gr_59_10, gr_59_11, gr_59_12, gr_59_13, gr_59_14, gr_59_15, gi_mmy, pi_mmy, gr_59_17, gr_59_18, hN, if_neg hle, b32_0, Bool.true_eq_false, if_false, ln_mul, n32_add, rd_mbl (show 12 * g + j < 144 by omega), if_pos (hbr.mpr h1), nl_add]
          rfl)
  refine ⟨b, hb, ?_⟩
  simp only [f_M_sort_63]
  refine Eq.trans e ?_
  simp only [f_M_sort_68, f_M_sort_142, Option.bind_some, is_0, gr_0_0, gr_0_1, gr_0_2, gr_0_3, gr_0_4, gr_0_5, gi_tp, pi_tp, gi_tf, pi_tf, gi_xf, pi_xf, is_1, gr_1_0, gr_1_1, gi_en, pi_en, is_4, gr_4_0, gr_4_1, gr_4_2, gr_4_3, gi_gn, pi_gn, is_9, gr_9_0, gr_9_1, gi_ts, pi_ts, gi_tw, pi_tw, gi_tc, pi_tc, is_40, gr_40_0, is_42, gr_42_0, gr_42_1, gi_dn, pi_dn, is_45, gr_45_0, gr_45_1, gi_xw, pi_xw, gi_xn, pi_xn, gi_xt, pi_xt, is_59, gi_mco, pi_mco, gi_mev, pi_mev, gr_59_2, gr_59_3, gi_mgt, pi_mgt, gr_59_5, gr_59_6, gr_59_7, gr_59_8, gi_mtp, pi_mtp, gr_59_10, gr_59_11, gr_59_12, gr_59_13, gr_59_14, gr_59_15, gi_mmy, pi_mmy, gr_59_17, gr_59_18, hN, if_pos (show n32 ng ≤ n32 ng from (n32_le (by omega) (by omega)).mpr (Nat.le_refl _)), b32_0]
  cases hbb : b with
  | false => simp only [if_true, nl_add, Bool.false_eq_true, if_false]
  | true =>
    have hl := hlen (hb.mp hbb).1
    simp only [Option.bind_some, is_0, gr_0_0, gr_0_1, gr_0_2, gr_0_3, gr_0_4, gr_0_5, gi_tp, pi_tp, gi_tf, pi_tf, gi_xf, pi_xf, is_1, gr_1_0, gr_1_1, gi_en, pi_en, is_4, gr_4_0, gr_4_1, gr_4_2, gr_4_3, gi_gn, pi_gn, is_9, gr_9_0, gr_9_1, gi_ts, pi_ts, gi_tw, pi_tw, gi_tc, pi_tc, is_40, gr_40_0, is_42, gr_42_0, gr_42_1, gi_dn, pi_dn, is_45, gr_45_0, gr_45_1, gi_xw, pi_xw, gi_xn, pi_xn, gi_xt, pi_xt, is_59, gi_mco, pi_mco, gi_mev, pi_mev, gr_59_2, gr_59_3, gi_mgt, pi_mgt, gr_59_5, gr_59_6, gr_59_7, gr_59_8, gi_mtp, pi_mtp, gr_59_10, gr_59_11, gr_59_12, gr_59_13, gr_59_14, gr_59_15, gi_mmy, pi_mmy, gr_59_17, gr_59_18, Bool.true_eq_false, if_false, if_true, wr_mrd (show g < 12 by omega), wr_mor hl, nar_1, nl_add]
end
