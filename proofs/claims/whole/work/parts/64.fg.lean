/-! the row of a gate -/
section
variable {fu : Nat} {S : Ws}
theorem Ls_perm {x : Int32} {l : List Nat} (hn : l.Nodup) (hl : ∀ c, c ∈ l → c < 28) (h : ∀ y, y < 32 → (bt x y = true ↔ y ∈ l)) : (Ls x 28).Perm l := by
  refine (List.perm_ext_iff_of_nodup (List.Nodup.sublist List.filter_sublist List.nodup_range) hn).mpr fun y => ?_
  rw [List.mem_filter, List.mem_range]
  constructor
  · rintro ⟨h1, h2⟩; exact (h y (by omega)).mp h2
  · intro hy; exact ⟨hl y hy, (h y (by have := hl y hy; omega)).mpr hy⟩
/-- one word of a gate's row -/
theorem T_fgw {L : List Nat} {w g kd vt : Nat} (hL : InL S L) (hw : w < 16) (hg : g < 12) (hkd : kd ≤ 4) (hvt : vt ≤ 4) (hV : S.2.1 6 g = n32 vt) (nw : Nat) (hnw : nw ≤ 16) (hwn : w < nw) (hW : S.1 9 3 = n32 nw) (hfu : 200 ≤ fu) (n : Nat) : ∃ y, (∀ b, b < 64 → lb y b = gf kd vt (L.countP (fun c => lb (S.2.2 (11 + c) w) b)) L.length) ∧ f_T_fillGate_33 fu (n + 1) 9 4 (n32 g) (n32 L.length) (n32 kd) (11 + (16 + g)) (n32 w) (enc S) = f_T_fillGate_33 fu n 9 4 (n32 g) (n32 L.length) (n32 kd) (11 + (16 + g)) (n32 (w + 1)) (enc (sL S (11 + (16 + g)) w y)) := by
  have hl := hL.1
  have hle : ¬ n32 nw ≤ n32 w := by rw [n32_le (by omega) (by omega)]; omega
  have hcl : ∀ b, L.countP (fun c => lb (S.2.2 (11 + c) w) b) ≤ L.length := fun b => List.countP_le_length
  by_cases k3 : kd = 3
  · obtain ⟨y, e, hy⟩ := T_odd (fu := fu) hL hw hfu
    refine ⟨y, fun b hb => ?_, ?_⟩
    · rw [hy b hb]; subst k3; rfl
    · simp only [f_T_fillGate_33, f_T_fillGate_130, Option.bind_some, is_0, gr_0_0, gr_0_1, gr_0_2, gr_0_3, gr_0_4, gr_0_5, gi_tp, pi_tp, gi_tf, pi_tf, gi_xf, pi_xf, is_1, gr_1_0, gr_1_1, gi_en, pi_en, is_4, gr_4_0, gr_4_1, gr_4_2, gr_4_3, gi_gn, pi_gn, is_9, gr_9_0, gr_9_1, gi_ts, pi_ts, gi_tw, pi_tw, gi_tc, pi_tc, is_40, gr_40_0, is_42, gr_42_0, gr_42_1, gi_dn, pi_dn, is_45, gr_45_0, gr_45_1, gi_xw, pi_xw, gi_xn, pi_xn, gi_xt, pi_xt, is_59, gi_mco, pi_mco, gi_mev, pi_mev, gr_59_2, gr_59_3, gi_mgt, pi_mgt, gr_59_5, gr_59_6, gr_59_7, gr_59_8, gi_mtp, pi_mtp, gr_59_10, gr_59_11, gr_59_12, gr_59_13, gr_59_14, gr_59_15, gi_mmy, pi_mmy, gr_59_17, gr_59_18, hW, if_neg hle, nl_eq (show kd < 2147483648 by omega) (show 3 < 2147483648 by omega), if_pos k3, e, wr_rw (show 16 + g < 28 by omega) hw, nl_add]
  · by_cases k4 : kd = 4
    · obtain ⟨y, e, hy⟩ := T_atl (fu := fu) (need := 1) hL hw (by omega) hfu
      refine ⟨y ^^^ (-1 : Int64), fun b hb => ?_, ?_⟩
      · rw [lb_xor, lb_m1 b hb, hy b hb]; subst k4
        show _ = decide (_ = 0)
        generalize L.countP (fun c => lb (S.2.2 (11 + c) w) b) = c
        by_cases h : c = 0
        · rw [decide_eq_true h, decide_eq_false (by omega)]; rfl
        · rw [decide_eq_false h, decide_eq_true (by omega)]; rfl
      · have e' : f_T_atLeastWord fu 9 (1 : Int32) (n32 L.length) (n32 w) (enc S) = some (y, enc S) := e
        simp only [f_T_fillGate_33, f_T_fillGate_130, Option.bind_some, is_0, gr_0_0, gr_0_1, gr_0_2, gr_0_3, gr_0_4, gr_0_5, gi_tp, pi_tp, gi_tf, pi_tf, gi_xf, pi_xf, is_1, gr_1_0, gr_1_1, gi_en, pi_en, is_4, gr_4_0, gr_4_1, gr_4_2, gr_4_3, gi_gn, pi_gn, is_9, gr_9_0, gr_9_1, gi_ts, pi_ts, gi_tw, pi_tw, gi_tc, pi_tc, is_40, gr_40_0, is_42, gr_42_0, gr_42_1, gi_dn, pi_dn, is_45, gr_45_0, gr_45_1, gi_xw, pi_xw, gi_xn, pi_xn, gi_xt, pi_xt, is_59, gi_mco, pi_mco, gi_mev, pi_mev, gr_59_2, gr_59_3, gi_mgt, pi_mgt, gr_59_5, gr_59_6, gr_59_7, gr_59_8, gi_mtp, pi_mtp, gr_59_10, gr_59_11, gr_59_12, gr_59_13, gr_59_14, gr_59_15, gi_mmy, pi_mmy, gr_59_17, gr_59_18, hW, if_neg hle, nl_eq (show kd < 2147483648 by omega) (show 3 < 2147483648 by omega), nl_eq (show kd < 2147483648 by omega) (show 4 < 2147483648 by omega), if_neg k3, if_pos k4, e', wr_rw (show 16 + g < 28 by omega) hw, nl_add]
    · by_cases k0 : kd = 0
      · obtain ⟨y, e, hy⟩ := T_atl (fu := fu) (need := L.length) hL hw hl hfu
        refine ⟨y, fun b hb => ?_, ?_⟩
        · rw [hy b hb]; subst k0
          have := hcl b
          show _ = decide (_ = _)
          generalize L.countP (fun c => lb (S.2.2 (11 + c) w) b) = c at *
          by_cases h : c = L.length
          · rw [decide_eq_true h, decide_eq_true (by omega)]
          · rw [decide_eq_false h, decide_eq_false (by omega)]
        · simp only [f_T_fillGate_33, f_T_fillGate_114, f_T_fillGate_130, Option.bind_some, is_0, gr_0_0, gr_0_1, gr_0_2, gr_0_3, gr_0_4, gr_0_5, gi_tp, pi_tp, gi_tf, pi_tf, gi_xf, pi_xf, is_1, gr_1_0, gr_1_1, gi_en, pi_en, is_4, gr_4_0, gr_4_1, gr_4_2, gr_4_3, gi_gn, pi_gn, is_9, gr_9_0, gr_9_1, gi_ts, pi_ts, gi_tw, pi_tw, gi_tc, pi_tc, is_40, gr_40_0, is_42, gr_42_0, gr_42_1, gi_dn, pi_dn, is_45, gr_45_0, gr_45_1, gi_xw, pi_xw, gi_xn, pi_xn, gi_xt, pi_xt, is_59, gi_mco, pi_mco, gi_mev, pi_mev, gr_59_2, gr_59_3, gi_mgt, pi_mgt, gr_59_5, gr_59_6, gr_59_7, gr_59_8, gi_mtp, pi_mtp, gr_59_10, gr_59_11, gr_59_12, gr_59_13, gr_59_14, gr_59_15, gi_mmy, pi_mmy, gr_59_17, gr_59_18, hW, if_neg hle, nl_eq (show kd < 2147483648 by omega) (show 3 < 2147483648 by omega), nl_eq (show kd < 2147483648 by omega) (show 4 < 2147483648 by omega), n32_z (show kd < 2147483648 by omega), if_neg k3, if_neg k4, if_pos k0, e, wr_rw (show 16 + g < 28 by omega) hw, nl_add]
      · by_cases k1 : kd = 1
        · obtain ⟨y, e, hy⟩ := T_atl (fu := fu) (need := 1) hL hw (by omega) hfu
          refine ⟨y, fun b hb => ?_, ?_⟩
          · rw [hy b hb]; subst k1; rfl
          · have e' : f_T_atLeastWord fu 9 (1 : Int32) (n32 L.length) (n32 w) (enc S) = some (y, enc S) := e
            simp only [f_T_fillGate_33, f_T_fillGate_114, f_T_fillGate_130, Option.bind_some, is_0, gr_0_0, gr_0_1, gr_0_2, gr_0_3, gr_0_4, gr_0_5, gi_tp, pi_tp, gi_tf, pi_tf, gi_xf, pi_xf, is_1, gr_1_0, gr_1_1, gi_en, pi_en, is_4, gr_4_0, gr_4_1, gr_4_2, gr_4_3, gi_gn, pi_gn, is_9, gr_9_0, gr_9_1, gi_ts, pi_ts, gi_tw, pi_tw, gi_tc, pi_tc, is_40, gr_40_0, is_42, gr_42_0, gr_42_1, gi_dn, pi_dn, is_45, gr_45_0, gr_45_1, gi_xw, pi_xw, gi_xn, pi_xn, gi_xt, pi_xt, is_59, gi_mco, pi_mco, gi_mev, pi_mev, gr_59_2, gr_59_3, gi_mgt, pi_mgt, gr_59_5, gr_59_6, gr_59_7, gr_59_8, gi_mtp, pi_mtp, gr_59_10, gr_59_11, gr_59_12, gr_59_13, gr_59_14, gr_59_15, gi_mmy, pi_mmy, gr_59_17, gr_59_18, hW, if_neg hle, nl_eq (show kd < 2147483648 by omega) (show 3 < 2147483648 by omega), nl_eq (show kd < 2147483648 by omega) (show 4 < 2147483648 by omega), nl_eq (show kd < 2147483648 by omega) (show 1 < 2147483648 by omega), n32_z (show kd < 2147483648 by omega), if_neg k3, if_neg k4, if_neg k0, if_pos k1, e', wr_rw (show 16 + g < 28 by omega) hw, nl_add]
        · obtain rfl : kd = 2 := by omega
          obtain ⟨y, e, hy⟩ := T_atl (fu := fu) (need := vt) hL hw hvt hfu
          refine ⟨y, fun b hb => by rw [hy b hb]; rfl, ?_⟩
          simp only [f_T_fillGate_33, f_T_fillGate_114, f_T_fillGate_130, Option.bind_some, is_0, gr_0_0, gr_0_1, gr_0_2, gr_0_3, gr_0_4, gr_0_5, gi_tp, pi_tp, gi_tf, pi_tf, gi_xf, pi_xf, is_1, gr_1_0, gr_1_1, gi_en, pi_en, is_4, gr_4_0, gr_4_1, gr_4_2, gr_4_3, gi_gn, pi_gn, is_9, gr_9_0, gr_9_1, gi_ts, pi_ts, gi_tw, pi_tw, gi_tc, pi_tc, is_40, gr_40_0, is_42, gr_42_0, gr_42_1, gi_dn, pi_dn, is_45, gr_45_0, gr_45_1, gi_xw, pi_xw, gi_xn, pi_xn, gi_xt, pi_xt, is_59, gi_mco, pi_mco, gi_mev, pi_mev, gr_59_2, gr_59_3, gi_mgt, pi_mgt, gr_59_5, gr_59_6, gr_59_7, gr_59_8, gi_mtp, pi_mtp, gr_59_10, gr_59_11, gr_59_12, gr_59_13, gr_59_14, gr_59_15, gi_mmy, pi_mmy, gr_59_17, gr_59_18, hW, if_neg hle, nl_eq (show 2 < 2147483648 by omega) (show 3 < 2147483648 by omega), nl_eq (show 2 < 2147483648 by omega) (show 4 < 2147483648 by omega), nl_eq (show 2 < 2147483648 by omega) (show 1 < 2147483648 by omega), n32_z (show 2 < 2147483648 by omega), if_neg k3, if_neg k4, if_neg k0, if_neg k1, rd_gv hg, hV, e, wr_rw (show 16 + g < 28 by omega) hw, nl_add]
end
