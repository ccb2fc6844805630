/-! input, ended -/
section
variable {fu : Nat} {S : Ws} {A : Ab} {r : Nat → Nat}
theorem RM.km (M : RM S A) : KM S (aX A) := M.2.2.2.2.1
theorem M_in98 {v u : Int32} : f_M_input_98 fu 59 v u 59 (enc S) = some (0, enc (sS S 59 0 2)) := by
  simp only [f_M_input_98, f_M_input_103, Option.bind_some, is_0, gr_0_0, gr_0_1, gr_0_2, gr_0_3, gr_0_4, gr_0_5, gi_tp, pi_tp, gi_tf, pi_tf, gi_xf, pi_xf, is_1, gr_1_0, gr_1_1, gi_en, pi_en, is_4, gr_4_0, gr_4_1, gr_4_2, gr_4_3, gi_gn, pi_gn, is_9, gr_9_0, gr_9_1, gi_ts, pi_ts, gi_tw, pi_tw, gi_tc, pi_tc, is_40, gr_40_0, is_42, gr_42_0, gr_42_1, gi_dn, pi_dn, is_45, gr_45_0, gr_45_1, gi_xw, pi_xw, gi_xn, pi_xn, gi_xt, pi_xt, is_59, gi_mco, pi_mco, gi_mev, pi_mev, gr_59_2, gr_59_3, gi_mgt, pi_mgt, gr_59_5, gr_59_6, gr_59_7, gr_59_8, gi_mtp, pi_mtp, gr_59_10, gr_59_11, gr_59_12, gr_59_13, gr_59_14, gr_59_15, gi_mmy, pi_mmy, gr_59_17, gr_59_18, sS1, upd_at, if_true, m_le0, if_false]
theorem M_has {g c : Nat} (O : Ok A r) (M : RM S A) (hg : g < aG A) (hc : c < 28) (hfu : 200 ≤ fu) : f_M_hasChild fu 59 (n32 g) (n32 c) (enc (sS S 59 0 0)) = some (b32 (decide (c ∈ aX A g)), enc (sS S 59 0 0)) :=
  M_hasChild (S := sS S 59 0 0) (by have := O.2.1; omega) (O.len g) (by omega) (fun y hy => by have := O.lt28 hy; omega) (M.km g (by have := O.2.1; omega)).1 (M.km g (by have := O.2.1; omega)).2 (by omega)
theorem M_in2 {g c : Nat} (O : Ok A r) (M : RM S A) (hg : g < aG A) (hc : c < 28) (hfu : 200 ≤ fu) (h : c ∈ aX A g ∨ (if aK A g = 4 then 1 else 4) ≤ (aX A g).length) : f_M_input_52 fu 59 (n32 g) (n32 c) 59 0 (enc S) = some (0, enc (sS (sS S 59 0 0) 59 0 2)) := by
  have hg12 : g < 12 := by have := O.2.1; omega
  have hK := (M.2.2.2.1 g hg).1
  have hK4 := (O.2.2.2.1 g hg).1
  have hL := (M.km g hg12).1
  have hlen := O.len g
  have hlim := (O.2.2.2.2.1 g).2
  simp only [f_M_input_52, f_M_input_95, Option.bind_some, is_0, gr_0_0, gr_0_1, gr_0_2, gr_0_3, gr_0_4, gr_0_5, gi_tp, pi_tp, gi_tf, pi_tf, gi_xf, pi_xf, is_1, gr_1_0, gr_1_1, gi_en, pi_en, is_4, gr_4_0, gr_4_1, gr_4_2, gr_4_3, gi_gn, pi_gn, is_9, gr_9_0, gr_9_1, gi_ts, pi_ts, gi_tw, pi_tw, gi_tc, pi_tc, is_40, gr_40_0, is_42, gr_42_0, gr_42_1, gi_dn, pi_dn, is_45, gr_45_0, gr_45_1, gi_xw, pi_xw, gi_xn, pi_xn, gi_xt, pi_xt, is_59, gi_mco, pi_mco, gi_mev, pi_mev, gr_59_2, gr_59_3, gi_mgt, pi_mgt, gr_59_5, gr_59_6, gr_59_7, gr_59_8, gi_mtp, pi_mtp, gr_59_10, gr_59_11, gr_59_12, gr_59_13, gr_59_14, gr_59_15, gi_mmy, pi_mmy, gr_59_17, gr_59_18, sS1, sS2, upd_at, if_true, show (0 : Int32) ≤ 0 from by decide, M_has O M hg hc hfu, b32_0, rd_mct hg12, rd_mkd hg12, hL, hK, nl_eq (show aK A g < 2147483648 by omega) (show 4 < 2147483648 by omega), nl_eq (show (aX A g).length < 2147483648 by omega) (show 4 < 2147483648 by omega), nl_eq (show (aX A g).length < 2147483648 by omega) (show 1 < 2147483648 by omega), M_in98]
  by_cases hh : c ∈ aX A g
  · rw [if_neg (by simp [hh])]
  · rw [if_pos (by simp [hh])]
    have h := h.resolve_left hh
    by_cases h4 : aK A g = 4
    · rw [if_pos h4] at h hlim ⊢; rw [if_pos (by omega)]
    · rw [if_neg h4] at h hlim ⊢; rw [if_pos (by omega)]
theorem M_in3 {g c : Nat} (O : Ok A r) (M : RM S A) (hg : g < aG A) (hc : gch A c) (hfu : 200 ≤ fu) (h1 : c ∉ aX A g) (h2 : ¬ (if aK A g = 4 then 1 else 4) ≤ (aX A g).length) : ∃ T, Fr66 (sS (sS S 59 0 0) 59 0 0) T ∧ (wb (aX A) c (16 + g) → f_M_input_52 fu 59 (n32 g) (n32 c) 59 0 (enc S) = some (0, enc (sS T 59 0 3))) ∧ (¬ wb (aX A) c (16 + g) → f_M_input_52 fu 59 (n32 g) (n32 c) 59 0 (enc S) = some (n32 ((aX A g).length + 1), enc (sI (sI (sS T 59 0 0) 65 (4 * g + (aX A g).length) (n32 c)) 64 g (n32 ((aX A g).length + 1))))) := by
  have hE := O.1; have hG := O.2.1
  have hg12 : g < 12 := by omega
  have hc28 : c < 28 := by unfold gch at hc; omega
  have hK := (M.2.2.2.1 g hg).1
  have hK4 := (O.2.2.2.1 g hg).1
  have hL := (M.km g hg12).1
  have hlen := O.len g
  have hl3 : (aX A g).length ≤ 3 := by split at h2 <;> omega
  obtain ⟨T, t1, t2, t3⟩ := M_fb (fu := fu) (S := sS (sS S 59 0 0) 59 0 0) (X := aX A) (ng := aG A) hG M.2.2.1 O.len (fun g c hc => ⟨(O.2.2.2.2.2.1 g c hc).1, by have := (O.2.2.2.2.2.1 g c hc).2; omega⟩) M.km hfu
  have hT64 : T.2.1 64 g = n32 (aX A g).length := by rw [t1.2.2 64 (by omega)]; exact hL
  have e : f_M_input_52 fu 59 (n32 g) (n32 c) 59 0 (enc S) = (if n32 c = n32 (16 + g) then f_M_input_156 fu 59 (n32 g) (n32 c) 59 3 (enc T) else if c < 16 then f_M_input_156 fu 59 (n32 g) (n32 c) 59 0 (enc T) else (hp_rz (enc T) 66 (((12 : Int32) * (n32 c - (16 : Int32))) + n32 g)).bind fun x5 => if x5 = 0 then f_M_input_156 fu 59 (n32 g) (n32 c) 59 0 (enc T) else f_M_input_156 fu 59 (n32 g) (n32 c) 59 3 (enc T)) := by
    simp only [f_M_input_52, f_M_input_95, f_M_input_98, Option.bind_some, is_0, gr_0_0, gr_0_1, gr_0_2, gr_0_3, gr_0_4, gr_0_5, gi_tp, pi_tp, gi_tf, pi_tf, gi_xf, pi_xf, is_1, gr_1_0, gr_1_1, gi_en, pi_en, is_4, gr_4_0, gr_4_1, gr_4_2, gr_4_3, gi_gn, pi_gn, is_9, gr_9_0, gr_9_1, gi_ts, pi_ts, gi_tw, pi_tw, gi_tc, pi_tc, is_40, gr_40_0, is_42, gr_42_0, gr_42_1, gi_dn, pi_dn, is_45, gr_45_0, gr_45_1, gi_xw, pi_xw, gi_xn, pi_xn, gi_xt, pi_xt, is_59, gi_mco, pi_mco, gi_mev, pi_mev, gr_59_2, gr_59_3, gi_mgt, pi_mgt, gr_59_5, gr_59_6, gr_59_7, gr_59_8, gi_mtp, pi_mtp, gr_59_10, gr_59_11, gr_59_12, gr_59_13, gr_59_14, gr_59_15, gi_mmy, pi_mmy, gr_59_17, gr_59_18, sS1, sS2, upd_at, if_true, show (0 : Int32) ≤ 0 from by decide, M_has O M hg hc28 hfu, b32_0, rd_mct hg12, rd_mkd hg12, hL, hK, nl_eq (show aK A g < 2147483648 by omega) (show 4 < 2147483648 by omega), nl_eq (show (aX A g).length < 2147483648 by omega) (show 4 < 2147483648 by omega), nl_eq (show (aX A g).length < 2147483648 by omega) (show 1 < 2147483648 by omega), if_pos (show decide (c ∈ aX A g) = false from decide_eq_false h1)]
    have e2 : f_M_input_103 fu 59 (n32 g) (n32 c) 59 0 (enc (sS S 59 0 0)) = (if n32 c = n32 (16 + g) then f_M_input_156 fu 59 (n32 g) (n32 c) 59 3 (enc T) else if c < 16 then f_M_input_156 fu 59 (n32 g) (n32 c) 59 0 (enc T) else (hp_rz (enc T) 66 (((12 : Int32) * (n32 c - (16 : Int32))) + n32 g)).bind fun x5 => if x5 = 0 then f_M_input_156 fu 59 (n32 g) (n32 c) 59 0 (enc T) else f_M_input_156 fu 59 (n32 g) (n32 c) 59 3 (enc T)) := by
      simp only [f_M_input_103, f_M_input_151, f_M_input_155, Option.bind_some, is_0, gr_0_0, gr_0_1, gr_0_2, gr_0_3, gr_0_4, gr_0_5, gi_tp, pi_tp, gi_tf, pi_tf, gi_xf, pi_xf, is_1, gr_1_0, gr_1_1, gi_en, pi_en, is_4, gr_4_0, gr_4_1, gr_4_2, gr_4_3, gi_gn, pi_gn, is_9, gr_9_0, gr_9_1, gi_ts, pi_ts, gi_tw, pi_tw, gi_tc, pi_tc, is_40, gr_40_0, is_42, gr_42_0, gr_42_1, gi_dn, pi_dn, is_45, gr_45_0, gr_45_1, gi_xw, pi_xw, gi_xn, pi_xn, gi_xt, pi_xt, is_59, gi_mco, pi_mco, gi_mev, pi_mev, gr_59_2, gr_59_3, gi_mgt, pi_mgt, gr_59_5, gr_59_6, gr_59_7, gr_59_8, gi_mtp, pi_mtp, gr_59_10, gr_59_11, gr_59_12, gr_59_13, gr_59_14, gr_59_15, gi_mmy, pi_mmy, gr_59_17, gr_59_18, sS1, upd_at, if_true, show (0 : Int32) ≤ 0 from by decide, t3, ln_add, nl_lt (show c < 2147483648 by omega) (show 16 < 2147483648 by omega)]
    rw [← e2]
    by_cases h4 : aK A g = 4
    · rw [if_pos h4] at h2 ⊢; rw [if_neg (by omega)]
    · rw [if_neg h4] at h2 ⊢; rw [if_neg (by omega)]
  have w3 : f_M_input_156 fu 59 (n32 g) (n32 c) 59 3 (enc T) = some (0, enc (sS T 59 0 3)) := by
    simp only [f_M_input_156, Option.bind_some, is_0, gr_0_0, gr_0_1, gr_0_2, gr_0_3, gr_0_4, gr_0_5, gi_tp, pi_tp, gi_tf, pi_tf, gi_xf, pi_xf, is_1, gr_1_0, gr_1_1, gi_en, pi_en, is_4, gr_4_0, gr_4_1, gr_4_2, gr_4_3, gi_gn, pi_gn, is_9, gr_9_0, gr_9_1, gi_ts, pi_ts, gi_tw, pi_tw, gi_tc, pi_tc, is_40, gr_40_0, is_42, gr_42_0, gr_42_1, gi_dn, pi_dn, is_45, gr_45_0, gr_45_1, gi_xw, pi_xw, gi_xn, pi_xn, gi_xt, pi_xt, is_59, gi_mco, pi_mco, gi_mev, pi_mev, gr_59_2, gr_59_3, gi_mgt, pi_mgt, gr_59_5, gr_59_6, gr_59_7, gr_59_8, gi_mtp, pi_mtp, gr_59_10, gr_59_11, gr_59_12, gr_59_13, gr_59_14, gr_59_15, gi_mmy, pi_mmy, gr_59_17, gr_59_18, sS1, upd_at, if_true, m_le0, if_false]
  have w0 : f_M_input_156 fu 59 (n32 g) (n32 c) 59 0 (enc T) = some (n32 ((aX A g).length + 1), enc (sI (sI (sS T 59 0 0) 65 (4 * g + (aX A g).length) (n32 c)) 64 g (n32 ((aX A g).length + 1)))) := by
    simp only [f_M_input_156, Option.bind_some, is_0, gr_0_0, gr_0_1, gr_0_2, gr_0_3, gr_0_4, gr_0_5, gi_tp, pi_tp, gi_tf, pi_tf, gi_xf, pi_xf, is_1, gr_1_0, gr_1_1, gi_en, pi_en, is_4, gr_4_0, gr_4_1, gr_4_2, gr_4_3, gi_gn, pi_gn, is_9, gr_9_0, gr_9_1, gi_ts, pi_ts, gi_tw, pi_tw, gi_tc, pi_tc, is_40, gr_40_0, is_42, gr_42_0, gr_42_1, gi_dn, pi_dn, is_45, gr_45_0, gr_45_1, gi_xw, pi_xw, gi_xn, pi_xn, gi_xt, pi_xt, is_59, gi_mco, pi_mco, gi_mev, pi_mev, gr_59_2, gr_59_3, gi_mgt, pi_mgt, gr_59_5, gr_59_6, gr_59_7, gr_59_8, gi_mtp, pi_mtp, gr_59_10, gr_59_11, gr_59_12, gr_59_13, gr_59_14, gr_59_15, gi_mmy, pi_mmy, gr_59_17, gr_59_18, sS1, sS2, upd_at, if_true, show (0 : Int32) ≤ 0 from by decide, rd_mct hg12, hT64, ln_mul, n32_add, wr_mki (show 4 * g + (aX A g).length < 48 by omega), sI2, show ¬ (64 = 65) from by decide, if_false, wr_mct hg12, nl_add]
  refine ⟨T, t1, fun hw => ?_, fun hw => ?_⟩
  · rw [e]
    by_cases h3 : c = 16 + g
    · rw [if_pos (by rw [h3]), w3]
    · rw [if_neg (fun q => h3 ((n32_inj (by omega) (by omega)).mp q))]
      rcases hw with hw | ⟨k, rfl, hw⟩
      · exact absurd hw.symm h3
      · have hk : k < 12 := by unfold gch at hc; omega
        rw [if_neg (by omega), nl_sub (by omega), ln_mul, n32_add, show 16 + k - 16 = k from by omega, rd_mbl (by omega), Option.bind_some, (t2 k hk g hg12).2.mpr hw, if_neg (by decide), w3]
  · rw [e]
    have h3 : ¬ c = 16 + g := fun q => hw (Or.inl q.symm)
    rw [if_neg (fun q => h3 ((n32_inj (by omega) (by omega)).mp q))]
    by_cases h16 : c < 16
    · rw [if_pos h16, w0]
    · obtain ⟨k, rfl⟩ : ∃ k, c = 16 + k := ⟨c - 16, by omega⟩
      have hk : k < 12 := by unfold gch at hc; omega
      rw [if_neg h16, nl_sub (by omega), ln_mul, n32_add, show 16 + k - 16 = k from by omega, rd_mbl (by omega), Option.bind_some]
      have h0 : T.2.1 66 (12 * k + g) = 0 := (t2 k hk g hg12).1.resolve_right (fun q => hw (Or.inr ⟨k, rfl, (t2 k hk g hg12).2.mp q⟩))
      rw [if_pos h0, w0]
end
