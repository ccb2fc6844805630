/-! input: desk and model agree -/
section
variable {fu : Nat} {S : Ws} {A : Ab} {r : Nat → Nat}
theorem F_in37 (O : Ok A r) (D : RD S A) {g c : Nat} (hg : g < aG A) (hc : c < 28) : ∃ b : Bool, (b = true ↔ wb (aX A) c (16 + g)) ∧ f_F_input_37 fu 0 (n32 g) (n32 c) (enc S) = (if c ∈ aX A g ∨ (if aK A g = 4 then 1 else 4) ≤ (aX A g).length then some (Sum.inl "java/lang/IllegalStateException", enc S) else if b = true then some (Sum.inl "java/lang/UnsupportedOperationException", enc S) else (f_G_join fu 4 (n32 g) (n32 c) (enc (sS (sS S 0 7 0) 0 8 0))).bind fun r9 => some (Sum.inr r9.1, r9.2)) := by
  have hG := O.2.1
  have hg12 : g < 12 := by omega
  have hK := (D.2.2.2.1 g hg).1
  have hK4 := (O.2.2.2.1 g hg).1
  have hcnt : (List.range 32).countP (bt (S.2.1 7 g)) = (aX A g).length := cnt_len (O.2.2.2.2.1 g).1 (fun y hy => by have := O.lt28 hy; omega) (fun y hy => (D.2.2.2.2.1 g hg12 y hy).1)
  obtain ⟨b, eb, hb⟩ := G_wouldLoop (fu := fu) (S := S) (R := rc (aX A)) (fun i hi y hy => (D.2.2.2.2.1 i hi y hy).2) hg12 hc
  refine ⟨b, hb, ?_⟩
  simp only [f_F_input_37, f_F_input_60, Option.bind_some, is_0, gr_0_0, gr_0_1, gr_0_2, gr_0_3, gr_0_4, gr_0_5, gi_tp, pi_tp, gi_tf, pi_tf, gi_xf, pi_xf, is_1, gr_1_0, gr_1_1, gi_en, pi_en, is_4, gr_4_0, gr_4_1, gr_4_2, gr_4_3, gi_gn, pi_gn, is_9, gr_9_0, gr_9_1, gi_ts, pi_ts, gi_tw, pi_tw, gi_tc, pi_tc, is_40, gr_40_0, is_42, gr_42_0, gr_42_1, gi_dn, pi_dn, is_45, gr_45_0, gr_45_1, gi_xw, pi_xw, gi_xn, pi_xn, gi_xt, pi_xt, is_59, gi_mco, pi_mco, gi_mev, pi_mev, gr_59_2, gr_59_3, gi_mgt, pi_mgt, gr_59_5, gr_59_6, gr_59_7, gr_59_8, gi_mtp, pi_mtp, gr_59_10, gr_59_11, gr_59_12, gr_59_13, gr_59_14, gr_59_15, gi_mmy, pi_mmy, gr_59_17, gr_59_18, G_isChild hg12 (show c < 32 by omega), G_isFull hg12 (show aK A g < 2147483648 by omega) hK hcnt, eb, b32_0, F_forget]
  by_cases h1 : c ∈ aX A g
  · rw [if_neg (by rw [(D.2.2.2.2.1 g hg12 c (by omega)).1.mpr h1]; decide), if_pos (Or.inl h1)]
  · rw [if_pos (by cases hq : bt (S.2.1 7 g) c with | false => rfl | true => exact absurd ((D.2.2.2.2.1 g hg12 c (by omega)).1.mp hq) h1)]
    by_cases h2 : (if aK A g = 4 then 1 else 4) ≤ (aX A g).length
    · rw [if_neg (by simp [h2]), if_pos (Or.inr h2)]
    · rw [if_pos (by simp [h2]), if_neg (show ¬ (c ∈ aX A g ∨ (if aK A g = 4 then 1 else 4) ≤ (aX A g).length) from fun q => q.elim h1 h2)]
      cases b <;> rfl
theorem c_input (I : Inv S A r) (v u : Int32) (hfu : 200 ≤ fu) : Cas (f_L_input fu 0 v u 74) (f_M_input fu 59 v u) S := by
  obtain ⟨O, D, M, T, X⟩ := id I
  have hE := O.1; have hG := O.2.1
  cases hv : vd (aG A) v with
  | false =>
    refine Cas.no I (k := 1) (by decide) ?_ ?_
    · simp only [f_L_input, f_F_input, Option.bind_some, is_0, gr_0_0, gr_0_1, gr_0_2, gr_0_3, gr_0_4, gr_0_5, gi_tp, pi_tp, gi_tf, pi_tf, gi_xf, pi_xf, is_1, gr_1_0, gr_1_1, gi_en, pi_en, is_4, gr_4_0, gr_4_1, gr_4_2, gr_4_3, gi_gn, pi_gn, is_9, gr_9_0, gr_9_1, gi_ts, pi_ts, gi_tw, pi_tw, gi_tc, pi_tc, is_40, gr_40_0, is_42, gr_42_0, gr_42_1, gi_dn, pi_dn, is_45, gr_45_0, gr_45_1, gi_xw, pi_xw, gi_xn, pi_xn, gi_xt, pi_xt, is_59, gi_mco, pi_mco, gi_mev, pi_mev, gr_59_2, gr_59_3, gi_mgt, pi_mgt, gr_59_5, gr_59_6, gr_59_7, gr_59_8, gi_mtp, pi_mtp, gr_59_10, gr_59_11, gr_59_12, gr_59_13, gr_59_14, gr_59_15, gi_mmy, pi_mmy, gr_59_17, gr_59_18, F_needGate D.2.2.1, hv, hx_inl, hl_inl, Bool.false_eq_true, if_false, if_true]
    · simp only [f_M_input, f_M_input_40, f_M_input_41, Option.bind_some, is_0, gr_0_0, gr_0_1, gr_0_2, gr_0_3, gr_0_4, gr_0_5, gi_tp, pi_tp, gi_tf, pi_tf, gi_xf, pi_xf, is_1, gr_1_0, gr_1_1, gi_en, pi_en, is_4, gr_4_0, gr_4_1, gr_4_2, gr_4_3, gi_gn, pi_gn, is_9, gr_9_0, gr_9_1, gi_ts, pi_ts, gi_tw, pi_tw, gi_tc, pi_tc, is_40, gr_40_0, is_42, gr_42_0, gr_42_1, gi_dn, pi_dn, is_45, gr_45_0, gr_45_1, gi_xw, pi_xw, gi_xn, pi_xn, gi_xt, pi_xt, is_59, gi_mco, pi_mco, gi_mev, pi_mev, gr_59_2, gr_59_3, gi_mgt, pi_mgt, gr_59_5, gr_59_6, gr_59_7, gr_59_8, gi_mtp, pi_mtp, gr_59_10, gr_59_11, gr_59_12, gr_59_13, gr_59_14, gr_59_15, gi_mmy, pi_mmy, gr_59_17, gr_59_18, M_isGate M.2.2.1, hv, b32_0, if_true, M_in52]
  | true =>
    obtain ⟨g, hg, rfl⟩ := vd_of (by omega) hv
    by_cases hneg : u < 0
    · have e1 : vd (aE A) u = false := by
        cases h : vd (aE A) u with
        | false => rfl
        | true => exact absurd hneg (of_decide_eq_true h).1
      have e16 : u < 16 := by rw [Int32.lt_iff_toInt_lt] at hneg ⊢; simp at hneg ⊢; omega
      refine Cas.no I (k := 1) (by decide) ?_ ?_
      · simp only [f_L_input, f_F_input, f_G_hasCode, f_G_hasCode_21, f_G_hasCode_22, Option.bind_some, is_0, gr_0_0, gr_0_1, gr_0_2, gr_0_3, gr_0_4, gr_0_5, gi_tp, pi_tp, gi_tf, pi_tf, gi_xf, pi_xf, is_1, gr_1_0, gr_1_1, gi_en, pi_en, is_4, gr_4_0, gr_4_1, gr_4_2, gr_4_3, gi_gn, pi_gn, is_9, gr_9_0, gr_9_1, gi_ts, pi_ts, gi_tw, pi_tw, gi_tc, pi_tc, is_40, gr_40_0, is_42, gr_42_0, gr_42_1, gi_dn, pi_dn, is_45, gr_45_0, gr_45_1, gi_xw, pi_xw, gi_xn, pi_xn, gi_xt, pi_xt, is_59, gi_mco, pi_mco, gi_mev, pi_mev, gr_59_2, gr_59_3, gi_mgt, pi_mgt, gr_59_5, gr_59_6, gr_59_7, gr_59_8, gi_mtp, pi_mtp, gr_59_10, gr_59_11, gr_59_12, gr_59_13, gr_59_14, gr_59_15, gi_mmy, pi_mmy, gr_59_17, gr_59_18, F_needGate D.2.2.1, hv, hx_inr, if_true, E_has D.1, e1, b32_0, if_pos e16, true_or, hl_inl]
      · simp only [f_M_input, f_M_input_40, f_M_input_41, Option.bind_some, is_0, gr_0_0, gr_0_1, gr_0_2, gr_0_3, gr_0_4, gr_0_5, gi_tp, pi_tp, gi_tf, pi_tf, gi_xf, pi_xf, is_1, gr_1_0, gr_1_1, gi_en, pi_en, is_4, gr_4_0, gr_4_1, gr_4_2, gr_4_3, gi_gn, pi_gn, is_9, gr_9_0, gr_9_1, gi_ts, pi_ts, gi_tw, pi_tw, gi_tc, pi_tc, is_40, gr_40_0, is_42, gr_42_0, gr_42_1, gi_dn, pi_dn, is_45, gr_45_0, gr_45_1, gi_xw, pi_xw, gi_xn, pi_xn, gi_xt, pi_xt, is_59, gi_mco, pi_mco, gi_mev, pi_mev, gr_59_2, gr_59_3, gi_mgt, pi_mgt, gr_59_5, gr_59_6, gr_59_7, gr_59_8, gi_mtp, pi_mtp, gr_59_10, gr_59_11, gr_59_12, gr_59_13, gr_59_14, gr_59_15, gi_mmy, pi_mmy, gr_59_17, gr_59_18, M_isGate M.2.2.1, hv, b32_0, Bool.true_eq_false, if_false, if_pos e16, M_isEvent M.1, e1, if_true, M_in52]
    · obtain ⟨c, hc, rfl⟩ := n32_of hneg
      by_cases hgc : gch A c
      · have hc28 : c < 28 := by unfold gch at hgc; omega
        obtain ⟨b, hb, eF⟩ := F_in37 (fu := fu) O D hg hc28
        by_cases h2 : c ∈ aX A g ∨ (if aK A g = 4 then 1 else 4) ≤ (aX A g).length
        · refine ⟨2, S, 0, sS (sS S 59 0 0) 59 0 2, ?_, ?_, rfl, fun h => absurd h (by decide), A, r, (I.code 0).code 2⟩
          · simp only [f_L_input, Option.bind_some, is_0, gr_0_0, gr_0_1, gr_0_2, gr_0_3, gr_0_4, gr_0_5, gi_tp, pi_tp, gi_tf, pi_tf, gi_xf, pi_xf, is_1, gr_1_0, gr_1_1, gi_en, pi_en, is_4, gr_4_0, gr_4_1, gr_4_2, gr_4_3, gi_gn, pi_gn, is_9, gr_9_0, gr_9_1, gi_ts, pi_ts, gi_tw, pi_tw, gi_tc, pi_tc, is_40, gr_40_0, is_42, gr_42_0, gr_42_1, gi_dn, pi_dn, is_45, gr_45_0, gr_45_1, gi_xw, pi_xw, gi_xn, pi_xn, gi_xt, pi_xt, is_59, gi_mco, pi_mco, gi_mev, pi_mev, gr_59_2, gr_59_3, gi_mgt, pi_mgt, gr_59_5, gr_59_6, gr_59_7, gr_59_8, gi_mtp, pi_mtp, gr_59_10, gr_59_11, gr_59_12, gr_59_13, gr_59_14, gr_59_15, gi_mmy, pi_mmy, gr_59_17, gr_59_18, F_in O D hg hgc, eF, if_pos h2, hl_inl]
            rfl
          · rw [M_in O M hg hgc, M_in2 O M hg hc28 hfu h2]
        · obtain ⟨U, u1, u2, u3⟩ := M_in3 O M hg hgc hfu (fun h => h2 (Or.inl h)) (fun h => h2 (Or.inr h))
          by_cases hw : wb (aX A) c (16 + g)
          · refine ⟨3, S, 0, sS U 59 0 3, ?_, ?_, rfl, fun h => absurd h (by decide), A, r, ?_⟩
            · simp only [f_L_input, Option.bind_some, is_0, gr_0_0, gr_0_1, gr_0_2, gr_0_3, gr_0_4, gr_0_5, gi_tp, pi_tp, gi_tf, pi_tf, gi_xf, pi_xf, is_1, gr_1_0, gr_1_1, gi_en, pi_en, is_4, gr_4_0, gr_4_1, gr_4_2, gr_4_3, gi_gn, pi_gn, is_9, gr_9_0, gr_9_1, gi_ts, pi_ts, gi_tw, pi_tw, gi_tc, pi_tc, is_40, gr_40_0, is_42, gr_42_0, gr_42_1, gi_dn, pi_dn, is_45, gr_45_0, gr_45_1, gi_xw, pi_xw, gi_xn, pi_xn, gi_xt, pi_xt, is_59, gi_mco, pi_mco, gi_mev, pi_mev, gr_59_2, gr_59_3, gi_mgt, pi_mgt, gr_59_5, gr_59_6, gr_59_7, gr_59_8, gi_mtp, pi_mtp, gr_59_10, gr_59_11, gr_59_12, gr_59_13, gr_59_14, gr_59_15, gi_mmy, pi_mmy, gr_59_17, gr_59_18, F_in O D hg hgc, eF, if_neg h2, if_pos (hb.mpr hw), hl_inl]
              rfl
            · rw [M_in O M hg hgc, u2 hw]
            · refine Inv.code (Inv.cg ((I.code 0).code 0) ?_ ?_ ?_ ?_ ?_ ?_ ?_ ?_ ?_ ?_) 3
              · rw [u1.1]
              · rw [u1.1]
              · rw [u1.1]
              · rw [u1.1]
              · rw [u1.1]
              · rw [u1.1]
              · rw [u1.1]
              · rw [u1.1]
              · intro q hq
                refine u1.2.2 q (fun e => ?_)
                subst e; simp at hq
              · intro q _ _
                rw [u1.2.1]
          · have D' : RD (sS (sS S 0 7 0) 0 8 0) A := by
              obtain ⟨d1, d2, d3, d4, d5, d6, d7, d8⟩ := D
              exact ⟨d1, d2, d3, d4, d5, d6, Or.inl rfl, Or.inl rfl⟩
            obtain ⟨T, eT, t1, t2, t3, t4⟩ := F_join (fu := fu) O D' hg hc28 (fun h => h2 (Or.inl h)) hfu
            have M1 : RM (sL T 74 0 (n32 ((aX A g).length + 1)).toInt64) A := by
              unfold RM at M ⊢
              rw [sL1, sL2, t1, t3 60 (by omega) (by omega), t3 61 (by omega) (by omega), t3 62 (by omega) (by omega), t3 63 (by omega) (by omega), t3 64 (by omega) (by omega), t3 65 (by omega) (by omega)]
              exact M
            obtain ⟨U, u1, -, u3⟩ := M_in3 (S := sL T 74 0 (n32 ((aX A g).length + 1)).toInt64) O M1 hg hgc hfu (fun h => h2 (Or.inl h)) (fun h => h2 (Or.inr h))
            obtain ⟨r', hr'⟩ := adX_rk O.2.2.2.2.2.2.1 hw
            have f1 : ∀ a, a ≠ 59 → U.1 a = (sS (sS S 0 7 0) 0 8 0).1 a := fun a ha => by
              rw [u1.1, sS1, if_neg ha, sS1, if_neg ha, sL1, t1]
            have f59 : ∀ k, k ≠ 0 → U.1 59 k = S.1 59 k := fun k hk => by
              rw [u1.1, sS1, if_pos rfl, upd_at, if_neg hk, sS1, if_pos rfl, upd_at, if_neg hk, sL1, t1]; rfl
            have fi : ∀ q, q ≠ 66 → U.2.1 q = T.2.1 q := fun q hq => u1.2.2 q hq
            refine ⟨0, sL T 74 0 (n32 ((aX A g).length + 1)).toInt64, n32 ((aX A g).length + 1), sI (sI (sS U 59 0 0) 65 (4 * g + (aX A g).length) (n32 c)) 64 g (n32 ((aX A g).length + 1)), ?_, ?_, rfl, fun _ => ?_, (aE A, aG A, aC A, aH A, aK A, aV A, adX (aX A) g c, aT A), r', ?_⟩
            · simp only [f_L_input, Option.bind_some, is_0, gr_0_0, gr_0_1, gr_0_2, gr_0_3, gr_0_4, gr_0_5, gi_tp, pi_tp, gi_tf, pi_tf, gi_xf, pi_xf, is_1, gr_1_0, gr_1_1, gi_en, pi_en, is_4, gr_4_0, gr_4_1, gr_4_2, gr_4_3, gi_gn, pi_gn, is_9, gr_9_0, gr_9_1, gi_ts, pi_ts, gi_tw, pi_tw, gi_tc, pi_tc, is_40, gr_40_0, is_42, gr_42_0, gr_42_1, gi_dn, pi_dn, is_45, gr_45_0, gr_45_1, gi_xw, pi_xw, gi_xn, pi_xn, gi_xt, pi_xt, is_59, gi_mco, pi_mco, gi_mev, pi_mev, gr_59_2, gr_59_3, gi_mgt, pi_mgt, gr_59_5, gr_59_6, gr_59_7, gr_59_8, gi_mtp, pi_mtp, gr_59_10, gr_59_11, gr_59_12, gr_59_13, gr_59_14, gr_59_15, gi_mmy, pi_mmy, gr_59_17, gr_59_18, F_in O D hg hgc, eF, if_neg h2, if_neg (show ¬ b = true from fun q => hw (hb.mp q)), eT, hl_inr, wr_out0]
            · rw [M_in O M1 hg hgc, u3 hw]
            · show U.2.2 74 0 = _
              rw [u1.2.1]; rfl
            · have hlen := O.len g
              have hl3 : (aX A g).length ≤ 3 := by
                have : ¬ (if aK A g = 4 then 1 else 4) ≤ (aX A g).length := fun h => h2 (Or.inr h)
                split at this <;> omega
              refine ⟨?_, ?_, ?_, ?_, ?_⟩
              · obtain ⟨o1, o2, o3, o4, o5, o6, o7, o8⟩ := O
                refine ⟨o1, o2, o3, o4, fun x => ?_, fun x y hy => ?_, hr', o8⟩
                · show (adX (aX A) g c x).Nodup ∧ (adX (aX A) g c x).length ≤ (if aK A x = 4 then 1 else 4)
                  by_cases hx : x = g
                  · subst hx
                    unfold adX
                    rw [if_pos rfl, List.nodup_append, List.length_append]
                    refine ⟨⟨(o5 x).1, by simp, fun a ha b hb e => ?_⟩, ?_⟩
                    · rw [List.mem_singleton] at hb
                      exact h2 (Or.inl (hb ▸ e ▸ ha))
                    · have : ¬ (if aK A x = 4 then 1 else 4) ≤ (aX A x).length := fun h => h2 (Or.inr h)
                      simp only [List.length_singleton]; omega
                  · unfold adX; rw [if_neg hx]; exact o5 x
                · rcases adX_mem.mp hy with h | ⟨rfl, rfl⟩
                  · exact o6 x y h
                  · exact ⟨hg, hgc⟩
              · obtain ⟨d1, d2, d3, d4, d5, d6, d7, d8⟩ := D
                unfold RD
                have k1 : (sI (sI (sS U 59 0 0) 65 (4 * g + (aX A g).length) (n32 c)) 64 g (n32 ((aX A g).length + 1))).1 1 = S.1 1 := by
                  show (sS U 59 0 0).1 1 = _
                  rw [sS1, if_neg (by decide), f1 1 (by omega)]; rfl
                have k4 : (sI (sI (sS U 59 0 0) 65 (4 * g + (aX A g).length) (n32 c)) 64 g (n32 ((aX A g).length + 1))).1 4 = S.1 4 := by
                  show (sS U 59 0 0).1 4 = _
                  rw [sS1, if_neg (by decide), f1 4 (by omega)]; rfl
                have k0 : (sI (sI (sS U 59 0 0) 65 (4 * g + (aX A g).length) (n32 c)) 64 g (n32 ((aX A g).length + 1))).1 0 = (sS (sS S 0 7 0) 0 8 0).1 0 := by
                  show (sS U 59 0 0).1 0 = _
                  rw [sS1, if_neg (by decide), f1 0 (by omega)]
                rw [k1, k4, k0]
                simp only [sI2, sS2, show ¬ (2 = 64) from by decide, show ¬ (2 = 65) from by decide, show ¬ (3 = 64) from by decide, show ¬ (3 = 65) from by decide, show ¬ (5 = 64) from by decide, show ¬ (5 = 65) from by decide, show ¬ (6 = 64) from by decide, show ¬ (6 = 65) from by decide, show ¬ (7 = 64) from by decide, show ¬ (7 = 65) from by decide, show ¬ (8 = 64) from by decide, show ¬ (8 = 65) from by decide, if_false]
                rw [fi 2 (by omega), fi 3 (by omega), fi 5 (by omega), fi 6 (by omega), fi 7 (by omega), fi 8 (by omega), t3 2 (by omega) (by omega), t3 3 (by omega) (by omega), t3 5 (by omega) (by omega), t3 6 (by omega) (by omega)]
                exact ⟨d1, d2, d3, d4, t4, d6, Or.inl rfl, Or.inl rfl⟩
              · obtain ⟨m1, m2, m3, m4, m5, m6⟩ := M
                unfold RM
                rw [sI1, sI1, sS1, if_pos (show 59 = 59 from rfl), upd_at, upd_at, upd_at, if_neg (show ¬ (1 = 0) from by decide), if_neg (show ¬ (4 = 0) from by decide), if_neg (show ¬ (9 = 0) from by decide), f59 1 (by omega), f59 4 (by omega), f59 9 (by omega)]
                simp only [sI2, sS2, show ¬ (60 = 64) from by decide, show ¬ (60 = 65) from by decide, show ¬ (61 = 64) from by decide, show ¬ (61 = 65) from by decide, show ¬ (62 = 64) from by decide, show ¬ (62 = 65) from by decide, show ¬ (63 = 64) from by decide, show ¬ (63 = 65) from by decide, show ¬ (64 = 65) from by decide, show ¬ (65 = 64) from by decide, if_false, if_true]
                rw [fi 60 (by omega), fi 61 (by omega), fi 62 (by omega), fi 63 (by omega), fi 64 (by omega), fi 65 (by omega), t3 60 (by omega) (by omega), t3 61 (by omega) (by omega), t3 62 (by omega) (by omega), t3 63 (by omega) (by omega), t3 64 (by omega) (by omega), t3 65 (by omega) (by omega)]
                refine ⟨m1, m2, m3, m4, fun x hx => ?_, m6⟩
                show upd (S.2.1 64) g (n32 ((aX A g).length + 1)) x = n32 (adX (aX A) g c x).length ∧ ∀ (j : Nat) (hj : j < (adX (aX A) g c x).length), upd (S.2.1 65) (4 * g + (aX A g).length) (n32 c) (4 * x + j) = n32 ((adX (aX A) g c x)[j])
                have hlx := O.len x
                by_cases hxg : x = g
                · subst hxg
                  have ea : adX (aX A) x c x = aX A x ++ [c] := by unfold adX; rw [if_pos rfl]
                  rw [upd_at, if_pos rfl]
                  refine ⟨by rw [ea, List.length_append]; rfl, fun j hj => ?_⟩
                  have hj' : j < (aX A x).length + 1 := by rw [ea, List.length_append] at hj; exact hj
                  simp only [ea]
                  rw [upd_at]
                  by_cases hjl : j = (aX A x).length
                  · subst hjl
                    rw [if_pos rfl, List.getElem_append_right (Nat.le_refl _)]
                    simp
                  · rw [if_neg (by omega), List.getElem_append_left (by omega)]
                    exact (m5 x hx).2 j (by omega)
                · have ea : adX (aX A) g c x = aX A x := by unfold adX; rw [if_neg hxg]
                  rw [upd_at, if_neg hxg]
                  refine ⟨by rw [ea]; exact (m5 x hx).1, fun j hj => ?_⟩
                  have hj' : j < (aX A x).length := by rw [ea] at hj; exact hj
                  simp only [ea]
                  rw [upd_at, if_neg (by omega)]
                  exact (m5 x hx).2 j hj'
              · intro h
                have : (0 : Int32) = 1 := by
                  rw [← h]; show 0 = (sS U 59 0 0).1 0 7
                  rw [sS1, if_neg (by decide), f1 0 (by omega)]; rfl
                exact absurd this (by decide)
              · intro h
                have : (0 : Int32) = 1 := by
                  rw [← h]; show 0 = (sS U 59 0 0).1 0 8
                  rw [sS1, if_neg (by decide), f1 0 (by omega)]; rfl
                exact absurd this (by decide)
      · have e1 : vd (aE A) (n32 c) = false := by
          cases h : vd (aE A) (n32 c) with
          | false => rfl
          | true =>
            obtain ⟨k, hk, e⟩ := vd_of (by omega) h
            have := (n32_inj hc (by omega)).mp e
            exact absurd (Or.inl (by omega)) hgc
        have e2 : decide (16 ≤ c ∧ c < 16 + aG A) = false := decide_eq_false (fun h => hgc (Or.inr h))
        refine Cas.no I (k := 1) (by decide) ?_ ?_
        · simp only [f_L_input, f_F_input, Option.bind_some, is_0, gr_0_0, gr_0_1, gr_0_2, gr_0_3, gr_0_4, gr_0_5, gi_tp, pi_tp, gi_tf, pi_tf, gi_xf, pi_xf, is_1, gr_1_0, gr_1_1, gi_en, pi_en, is_4, gr_4_0, gr_4_1, gr_4_2, gr_4_3, gi_gn, pi_gn, is_9, gr_9_0, gr_9_1, gi_ts, pi_ts, gi_tw, pi_tw, gi_tc, pi_tc, is_40, gr_40_0, is_42, gr_42_0, gr_42_1, gi_dn, pi_dn, is_45, gr_45_0, gr_45_1, gi_xw, pi_xw, gi_xn, pi_xn, gi_xt, pi_xt, is_59, gi_mco, pi_mco, gi_mev, pi_mev, gr_59_2, gr_59_3, gi_mgt, pi_mgt, gr_59_5, gr_59_6, gr_59_7, gr_59_8, gi_mtp, pi_mtp, gr_59_10, gr_59_11, gr_59_12, gr_59_13, gr_59_14, gr_59_15, gi_mmy, pi_mmy, gr_59_17, gr_59_18, F_needGate D.2.2.1, hv, hx_inr, if_true, E_has D.1, e1, b32_0, G_hasCode D.2.2.1 hG hc, e2, hl_inl]
        · simp only [f_M_input, f_M_input_40, f_M_input_41, Option.bind_some, is_0, gr_0_0, gr_0_1, gr_0_2, gr_0_3, gr_0_4, gr_0_5, gi_tp, pi_tp, gi_tf, pi_tf, gi_xf, pi_xf, is_1, gr_1_0, gr_1_1, gi_en, pi_en, is_4, gr_4_0, gr_4_1, gr_4_2, gr_4_3, gi_gn, pi_gn, is_9, gr_9_0, gr_9_1, gi_ts, pi_ts, gi_tw, pi_tw, gi_tc, pi_tc, is_40, gr_40_0, is_42, gr_42_0, gr_42_1, gi_dn, pi_dn, is_45, gr_45_0, gr_45_1, gi_xw, pi_xw, gi_xn, pi_xn, gi_xt, pi_xt, is_59, gi_mco, pi_mco, gi_mev, pi_mev, gr_59_2, gr_59_3, gi_mgt, pi_mgt, gr_59_5, gr_59_6, gr_59_7, gr_59_8, gi_mtp, pi_mtp, gr_59_10, gr_59_11, gr_59_12, gr_59_13, gr_59_14, gr_59_15, gi_mmy, pi_mmy, gr_59_17, gr_59_18, M_isGate M.2.2.1, hv, b32_0, Bool.true_eq_false, if_false, M_isEvent M.1, e1, if_true, M_in52, nl_lt hc (show 16 < 2147483648 by omega)]
          by_cases h16 : c < 16
          · rw [if_pos h16]
          · rw [if_neg h16, nl_sub (show 16 ≤ c by omega)]
            have e3 : vd (aG A) (n32 (c - 16)) = false := by
              cases h : vd (aG A) (n32 (c - 16)) with
              | false => rfl
              | true =>
                obtain ⟨k, hk, e⟩ := vd_of (by omega) h
                have := (n32_inj (show c - 16 < 2147483648 by omega) (by omega)).mp e
                exact absurd (Or.inr ⟨by omega, by omega⟩) hgc
            rw [if_pos e3]
end
