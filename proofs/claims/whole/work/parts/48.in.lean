/-! input -/
section
variable {fu : Nat} {S : Ws} {A : Ab} {r : Nat → Nat}
theorem Ok.lt28 (O : Ok A r) {g c : Nat} (h : c ∈ aX A g) : c < 28 := by
  have := (O.2.2.2.2.2.1 g c h).2; have := O.1; have := O.2.1; omega
theorem Ok.len (O : Ok A r) (g : Nat) : (aX A g).length ≤ 4 := by
  have := (O.2.2.2.2.1 g).2
  split at this <;> omega
theorem F_join (O : Ok A r) (D : RD S A) {g c : Nat} (hg : g < aG A) (hc : c < 28) (hn : c ∉ aX A g) (hfu : 200 ≤ fu) : ∃ T, f_G_join fu 4 (n32 g) (n32 c) (enc S) = some (n32 ((aX A g).length + 1), enc T) ∧ T.1 = S.1 ∧ T.2.2 = S.2.2 ∧ (∀ q, q ≠ 7 → q ≠ 8 → T.2.1 q = S.2.1 q) ∧ ∀ i, i < 12 → ∀ y, y < 32 → ((bt (T.2.1 7 i) y = true ↔ y ∈ adX (aX A) g c i) ∧ (bt (T.2.1 8 i) y = true ↔ rc (adX (aX A) g c) i y)) := by
  have hG := O.2.1
  have hg12 : g < 12 := by omega
  obtain ⟨d1, d2, d3, d4, d5, d6, d7, d8⟩ := D
  obtain ⟨x, ex, hx⟩ := G_wb (fu := fu) (S := sI S 7 g (S.2.1 7 g ||| (1 : Int32) <<< (n32 c &&& 31))) (R := fun g y => rc (aX A) g y) (fun i hi y hy => (d5 i hi y hy).2) hc
  obtain ⟨T, e, t1, t2, t3, t4⟩ := G_join21 (fu := fu) (S := sI S 7 g (S.2.1 7 g ||| (1 : Int32) <<< (n32 c &&& 31))) (ng := aG A) (g := g) hG d3 hg x (by omega)
  have h7 : ∀ i, i < 12 → ∀ y, y < 32 → (bt ((sI S 7 g (S.2.1 7 g ||| (1 : Int32) <<< (n32 c &&& 31))).2.1 7 i) y = true ↔ y ∈ adX (aX A) g c i) := fun i hi y hy => by
    rw [sI2, if_pos rfl, upd_at, adX_mem]
    by_cases h : i = g
    · subst h
      rw [if_pos rfl, bt_or, bt_shl (by omega) hy, Bool.or_eq_true, decide_eq_true_eq, (d5 i hi y hy).1]
      simp
    · rw [if_neg h, (d5 i hi y hy).1]; simp [h]
  refine ⟨T, ?_, t1, t2, fun q h7 h8 => ?_, fun i hi y hy => ⟨?_, ?_⟩⟩
  · have ec : (List.range 32).countP (bt ((sI S 7 g (S.2.1 7 g ||| (1 : Int32) <<< (n32 c &&& 31))).2.1 7 g)) = (aX A g).length + 1 := by
      rw [cnt_len (l := adX (aX A) g c g) ?_ ?_ (h7 g hg12)]
      · unfold adX; rw [if_pos rfl, List.length_append]; rfl
      · unfold adX; rw [if_pos rfl]
        rw [List.nodup_append]
        refine ⟨(O.2.2.2.2.1 g).1, by simp, fun a ha b hb e => ?_⟩
        rw [List.mem_singleton] at hb
        exact hn (hb ▸ e ▸ ha)
      · intro y hy
        rcases adX_mem.mp hy with h | ⟨_, h⟩
        · have := O.lt28 h; omega
        · omega
    rw [ec] at e
    simp only [f_G_join, Option.bind_some, is_0, gr_0_0, gr_0_1, gr_0_2, gr_0_3, gr_0_4, gr_0_5, gi_tp, pi_tp, gi_tf, pi_tf, gi_xf, pi_xf, is_1, gr_1_0, gr_1_1, gi_en, pi_en, is_4, gr_4_0, gr_4_1, gr_4_2, gr_4_3, gi_gn, pi_gn, is_9, gr_9_0, gr_9_1, gi_ts, pi_ts, gi_tw, pi_tw, gi_tc, pi_tc, is_40, gr_40_0, is_42, gr_42_0, gr_42_1, gi_dn, pi_dn, is_45, gr_45_0, gr_45_1, gi_xw, pi_xw, gi_xn, pi_xn, gi_xt, pi_xt, is_59, gi_mco, pi_mco, gi_mev, pi_mev, gr_59_2, gr_59_3, gi_mgt, pi_mgt, gr_59_5, gr_59_6, gr_59_7, gr_59_8, gi_mtp, pi_mtp, gr_59_10, gr_59_11, gr_59_12, gr_59_13, gr_59_14, gr_59_15, gi_mmy, pi_mmy, gr_59_17, gr_59_18, rd_gc hg12, wr_gc hg12, ex]
    exact e
  · rw [t3 q h8, sI2, if_neg h7]
  · rw [t3 7 (by omega)]; exact h7 i hi y hy
  · rw [t4, adX_rc]
    have e8 : (sI S 7 g (S.2.1 7 g ||| (1 : Int32) <<< (n32 c &&& 31))).2.1 8 i = S.2.1 8 i := rfl
    rw [e8]
    have b1 := (d5 i hi y hy).2
    have b2 := (d5 i hi (16 + g) (by omega)).2
    have hxy : bt x y = true ↔ wb (aX A) c y := hx y hy
    by_cases h : i < aG A ∧ (i = g ∨ bt (S.2.1 8 i) (16 + g) = true)
    · rw [if_pos h, bt_or, Bool.or_eq_true, b1, hxy]
      have h' : i = g ∨ rc (aX A) i (16 + g) := h.2.imp_right b2.mp
      exact ⟨fun q => q.imp_right (fun q => ⟨h', q⟩), fun q => q.imp_right (fun q => q.2)⟩
    · rw [if_neg h, b1]
      refine ⟨Or.inl, fun q => q.elim id (fun q => ?_)⟩
      have hi : i < aG A := by
        rcases q.1 with q | q
        · omega
        · rcases rc_cases q with q | ⟨k, q, _⟩
          · exact (O.2.2.2.2.2.1 i _ q).1
          · exact (O.2.2.2.2.2.1 i _ q).1
      exact absurd ⟨hi, q.1.imp_right b2.mpr⟩ h
theorem G_hasCode {n c : Nat} (h : S.1 4 4 = n32 n) (hn : n ≤ 12) (hc : c < 2147483648) : f_G_hasCode fu 4 (n32 c) (enc S) = some (b32 (decide (16 ≤ c ∧ c < 16 + n)), enc S) := by
  simp only [f_G_hasCode, f_G_hasCode_21, f_G_hasCode_22, Option.bind_some, is_0, gr_0_0, gr_0_1, gr_0_2, gr_0_3, gr_0_4, gr_0_5, gi_tp, pi_tp, gi_tf, pi_tf, gi_xf, pi_xf, is_1, gr_1_0, gr_1_1, gi_en, pi_en, is_4, gr_4_0, gr_4_1, gr_4_2, gr_4_3, gi_gn, pi_gn, is_9, gr_9_0, gr_9_1, gi_ts, pi_ts, gi_tw, pi_tw, gi_tc, pi_tc, is_40, gr_40_0, is_42, gr_42_0, gr_42_1, gi_dn, pi_dn, is_45, gr_45_0, gr_45_1, gi_xw, pi_xw, gi_xn, pi_xn, gi_xt, pi_xt, is_59, gi_mco, pi_mco, gi_mev, pi_mev, gr_59_2, gr_59_3, gi_mgt, pi_mgt, gr_59_5, gr_59_6, gr_59_7, gr_59_8, gi_mtp, pi_mtp, gr_59_10, gr_59_11, gr_59_12, gr_59_13, gr_59_14, gr_59_15, gi_mmy, pi_mmy, gr_59_17, gr_59_18, h, nl_lt hc (show 16 < 2147483648 by omega), ln_add, n32_le (show 16 + n < 2147483648 by omega) hc]
  by_cases h1 : c < 16
  · rw [if_pos h1, decide_eq_false (by omega)]; rfl
  · rw [if_neg h1]
    by_cases h2 : 16 + n ≤ c
    · rw [if_pos h2, decide_eq_false (by omega)]; rfl
    · rw [if_neg h2, decide_eq_true (by omega)]; rfl
theorem M_in52 {v u : Int32} : f_M_input_52 fu 59 v u 59 1 (enc S) = some (0, enc (sS S 59 0 1)) := by
  simp only [f_M_input_52, Option.bind_some, is_0, gr_0_0, gr_0_1, gr_0_2, gr_0_3, gr_0_4, gr_0_5, gi_tp, pi_tp, gi_tf, pi_tf, gi_xf, pi_xf, is_1, gr_1_0, gr_1_1, gi_en, pi_en, is_4, gr_4_0, gr_4_1, gr_4_2, gr_4_3, gi_gn, pi_gn, is_9, gr_9_0, gr_9_1, gi_ts, pi_ts, gi_tw, pi_tw, gi_tc, pi_tc, is_40, gr_40_0, is_42, gr_42_0, gr_42_1, gi_dn, pi_dn, is_45, gr_45_0, gr_45_1, gi_xw, pi_xw, gi_xn, pi_xn, gi_xt, pi_xt, is_59, gi_mco, pi_mco, gi_mev, pi_mev, gr_59_2, gr_59_3, gi_mgt, pi_mgt, gr_59_5, gr_59_6, gr_59_7, gr_59_8, gi_mtp, pi_mtp, gr_59_10, gr_59_11, gr_59_12, gr_59_13, gr_59_14, gr_59_15, gi_mmy, pi_mmy, gr_59_17, gr_59_18, sS1, upd_at, if_true, m_le0, if_false]
/-- a child that there is -/
def gch (A : Ab) (c : Nat) : Prop := c < aE A ∨ 16 ≤ c ∧ c < 16 + aG A
theorem F_in {g c : Nat} (O : Ok A r) (D : RD S A) (hg : g < aG A) (hc : gch A c) : f_F_input fu 0 (n32 g) (n32 c) (enc S) = f_F_input_37 fu 0 (n32 g) (n32 c) (enc S) := by
  have h1 := O.1; have h2 := O.2.1
  have hc28 : c < 28 := by unfold gch at hc; omega
  simp only [f_F_input, Option.bind_some, is_0, gr_0_0, gr_0_1, gr_0_2, gr_0_3, gr_0_4, gr_0_5, gi_tp, pi_tp, gi_tf, pi_tf, gi_xf, pi_xf, is_1, gr_1_0, gr_1_1, gi_en, pi_en, is_4, gr_4_0, gr_4_1, gr_4_2, gr_4_3, gi_gn, pi_gn, is_9, gr_9_0, gr_9_1, gi_ts, pi_ts, gi_tw, pi_tw, gi_tc, pi_tc, is_40, gr_40_0, is_42, gr_42_0, gr_42_1, gi_dn, pi_dn, is_45, gr_45_0, gr_45_1, gi_xw, pi_xw, gi_xn, pi_xn, gi_xt, pi_xt, is_59, gi_mco, pi_mco, gi_mev, pi_mev, gr_59_2, gr_59_3, gi_mgt, pi_mgt, gr_59_5, gr_59_6, gr_59_7, gr_59_8, gi_mtp, pi_mtp, gr_59_10, gr_59_11, gr_59_12, gr_59_13, gr_59_14, gr_59_15, gi_mmy, pi_mmy, gr_59_17, gr_59_18, F_needGate D.2.2.1, vd_n (show aG A < 2147483648 by omega) hg, if_true, hx_inr, E_has D.1, G_hasCode D.2.2.1 h2 (show c < 2147483648 by omega), b32_0]
  by_cases h : c < aE A
  · rw [if_neg (by rw [vd_n (by omega) h]; decide)]
  · have : 16 ≤ c ∧ c < 16 + aG A := by unfold gch at hc; omega
    by_cases hv : vd (aE A) (n32 c) = false
    · rw [if_pos hv, if_neg (by simp [this])]
    · rw [if_neg hv]
theorem M_in {g c : Nat} (O : Ok A r) (M : RM S A) (hg : g < aG A) (hc : gch A c) : f_M_input fu 59 (n32 g) (n32 c) (enc S) = f_M_input_52 fu 59 (n32 g) (n32 c) 59 0 (enc S) := by
  have h1 := O.1; have h2 := O.2.1
  have hc28 : c < 28 := by unfold gch at hc; omega
  simp only [f_M_input, f_M_input_40, f_M_input_36, f_M_input_41, Option.bind_some, is_0, gr_0_0, gr_0_1, gr_0_2, gr_0_3, gr_0_4, gr_0_5, gi_tp, pi_tp, gi_tf, pi_tf, gi_xf, pi_xf, is_1, gr_1_0, gr_1_1, gi_en, pi_en, is_4, gr_4_0, gr_4_1, gr_4_2, gr_4_3, gi_gn, pi_gn, is_9, gr_9_0, gr_9_1, gi_ts, pi_ts, gi_tw, pi_tw, gi_tc, pi_tc, is_40, gr_40_0, is_42, gr_42_0, gr_42_1, gi_dn, pi_dn, is_45, gr_45_0, gr_45_1, gi_xw, pi_xw, gi_xn, pi_xn, gi_xt, pi_xt, is_59, gi_mco, pi_mco, gi_mev, pi_mev, gr_59_2, gr_59_3, gi_mgt, pi_mgt, gr_59_5, gr_59_6, gr_59_7, gr_59_8, gi_mtp, pi_mtp, gr_59_10, gr_59_11, gr_59_12, gr_59_13, gr_59_14, gr_59_15, gi_mmy, pi_mmy, gr_59_17, gr_59_18, M_isGate M.2.2.1, M_isEvent M.1, vd_n (show aG A < 2147483648 by omega) hg, b32_0, Bool.true_eq_false, if_false, nl_lt (show c < 2147483648 by omega) (show 16 < 2147483648 by omega)]
  by_cases h : c < 16
  · have : c < aE A := by unfold gch at hc; omega
    rw [if_pos h, vd_n (by omega) this]; rfl
  · rw [if_neg h, nl_sub (show 16 ≤ c by omega)]
    simp only [vd_n (show aG A < 2147483648 by omega) (show c - 16 < aG A by unfold gch at hc; omega), Bool.true_eq_false, if_false]
    rfl
end
