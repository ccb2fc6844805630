/-! fillGates -/
section
variable {fu : Nat} {U : Ws} {A : Ab} {r : Nat → Nat}
theorem bt_sar2 {x : Int32} {k j : Nat} (h : k < 32) (hj : j < 32) (hkj : 32 ≤ k + j) : bt (x >>> (n32 k &&& 31)) j = bt x 31 := by
  rw [n32_31 h]; unfold bt
  rw [Int32.toBitVec_shiftRight, n32_smod k h]
  have hk : (BitVec.ofNat 32 k).toNat = k := by simp; omega
  unfold BitVec.sshiftRight'
  rw [hk, BitVec.getLsbD_sshiftRight, BitVec.msb_eq_getLsbD_last, if_neg (show ¬ k + j < 32 by omega), show decide (32 ≤ j) = false from decide_eq_false (by omega)]
  rfl
/-- the desk's gates hold the state -/
def RG (S : Ws) (A : Ab) : Prop := S.1 4 4 = n32 (aG A) ∧ (∀ g, g < aG A → S.2.1 5 g = n32 (aK A g) ∧ S.2.1 6 g = n32 (aV A g)) ∧ (∀ g, g < 12 → ∀ c, c < 32 → ((bt (S.2.1 7 g) c = true ↔ c ∈ aX A g) ∧ (bt (S.2.1 8 g) c = true ↔ rc (aX A) g c)))
def rt (A : Ab) (t h : Nat) : Prop := h = t ∨ rc (aX A) t (16 + h)
theorem rt_lt (O : Ok A r) {t h : Nat} (ht : t < aG A) (H : rt A t h) : h < aG A := by
  rcases H with rfl | H
  · exact ht
  · have hE := O.1
    rcases rc_last.mp H with h1 | ⟨k, _, h1⟩
    · have := (O.2.2.2.2.2.1 _ _ h1).2; omega
    · have := (O.2.2.2.2.2.1 _ _ h1).2; omega
theorem rt_tr {t h k : Nat} (H : rt A t h) (h1 : rc (aX A) h (16 + k)) : rt A t k := by
  rcases H with rfl | H
  · exact Or.inr h1
  · exact Or.inr (rc_tr H h1)
def GJ (U : Ws) (A : Ab) (r : Nat → Nat) (t nw : Nat) (x : Int32) (T : Ws) : Prop := (T.1 = U.1 ∧ (∀ q, q ≠ 39 → T.2.1 q = U.2.1 q) ∧ (∀ q, q < 27 ∨ 39 ≤ q → T.2.2 q = U.2.2 q)) ∧ (∀ h, h < 32 → bt x h = true → rt A t h) ∧ (∀ h, rt A t h → bt x h = false → ∀ w, w < nw → ∀ b, b < 64 → lb (T.2.2 (11 + (16 + h)) w) b = evR A r (64 * w + b) h)
def EJ (U : Ws) (A : Ab) (nw : Nat) : Prop := ∀ e, e < aE A → ∀ w, w < nw → ∀ b, b < 64 → lb (U.2.2 (11 + e) w) b = (if aH A e = 0 then (64 * w + b).testBit e else decide (aH A e = 2))
theorem T_fgs27 (O : Ok A r) (G : RG U A) {t nw : Nat} (ht : t < aG A) (hnw : nw ≤ 16) (hW : U.1 9 3 = n32 nw) (E : EJ U A nw) {x0 : Int32} {T0 : Ws} (J0 : GJ U A r t nw x0 T0) (hfu : 200 ≤ fu) (k14 : Nat → Nat → Int32 → Int32 → List va_E → Option (List va_E)) (rd : Nat) : ∃ x T, GJ U A r t nw x T ∧ (∀ h, h < 32 → bt x h = true → bt x0 h = true) ∧ (∀ g, g < aG A → (∀ k, k < 32 → rc (aX A) g (16 + k) → bt x0 k = false) → bt x g = false) ∧ f_T_fillGates_27 fu k14 fu 9 4 x0 (n32 rd) 0 (enc T0) = k14 9 4 x (n32 (rd + 1)) (enc T) := by
  have hG := O.2.1
  have hE := O.1
  obtain ⟨⟨x, T⟩, ⟨h1, h2, h3⟩, m, e⟩ := lp0 (σ := Int32 × Ws) (F := fun n j p => f_T_fillGates_27 fu k14 n 9 4 p.1 (n32 rd) (n32 j) (enc p.2)) (I := fun j p => GJ U A r t nw p.1 p.2 ∧ (∀ h, h < 32 → bt p.1 h = true → bt x0 h = true) ∧ (∀ g, g < j → (∀ k, k < 32 → rc (aX A) g (16 + k) → bt x0 k = false) → bt p.1 g = false)) (N := aG A) (n := fu) (s := (x0, T0)) (by omega) ⟨J0, fun _ _ h => h, fun g h => absurd h (by omega)⟩ (fun n j p hj hI => by
    obtain ⟨x, T⟩ := p
    obtain ⟨h1, h2, h3⟩ := hI
    dsimp only at h1 h2 h3
    obtain ⟨⟨f1, f2, f3⟩, b1, b2⟩ := h1
    have hle : ¬ n32 (aG A) ≤ n32 j := by rw [n32_le (by omega) (by omega)]; omega
    have hN' : T.1 4 4 = n32 (aG A) := by rw [f1]; exact G.1
    have hj12 : j < 12 := by omega
    have h8 : T.2.1 8 = U.2.1 8 := f2 8 (by omega)
    have h7 : T.2.1 7 = U.2.1 7 := f2 7 (by omega)
    have h5 : T.2.1 5 = U.2.1 5 := f2 5 (by omega)
    have h6 : T.2.1 6 = U.2.1 6 := f2 6 (by omega)
    have hle32 : ∀ k, rt A t k → k < 12 := fun k hk => by have := rt_lt O ht hk; omega
    cases hxj : bt x j with
    | false =>
      refine ⟨(x, T), ⟨⟨⟨f1, f2, f3⟩, b1, b2⟩, h2, fun g hg hq => ?_⟩, ?_⟩
      · by_cases hgj : g = j
        · subst hgj; exact hxj
        · exact h3 g (by omega) hq
      · show f_T_fillGates_27 fu k14 (n + 1) 9 4 x (n32 rd) (n32 j) (enc T) = f_T_fillGates_27 fu k14 n 9 4 x (n32 rd) (n32 (j + 1)) (enc T)
        simp only [f_T_fillGates_27, f_T_fillGates_56, f_T_fillGates_88, Option.bind_some, is_0, gr_0_0, gr_0_1, gr_0_2, gr_0_3, gr_0_4, gr_0_5, gi_tp, pi_tp, gi_tf, pi_tf, gi_xf, pi_xf, is_1, gr_1_0, gr_1_1, gi_en, pi_en, is_4, gr_4_0, gr_4_1, gr_4_2, gr_4_3, gi_gn, pi_gn, is_9, gr_9_0, gr_9_1, gi_ts, pi_ts, gi_tw, pi_tw, gi_tc, pi_tc, is_40, gr_40_0, is_42, gr_42_0, gr_42_1, gi_dn, pi_dn, is_45, gr_45_0, gr_45_1, gi_xw, pi_xw, gi_xn, pi_xn, gi_xt, pi_xt, is_59, gi_mco, pi_mco, gi_mev, pi_mev, gr_59_2, gr_59_3, gi_mgt, pi_mgt, gr_59_5, gr_59_6, gr_59_7, gr_59_8, gi_mtp, pi_mtp, gr_59_10, gr_59_11, gr_59_12, gr_59_13, gr_59_14, gr_59_15, gi_mmy, pi_mmy, gr_59_17, gr_59_18, hN', if_neg hle, rd_gb hj12, if_pos ((ts_0 (show j < 32 by omega)).mpr hxj), nl_add, ite_self]
    | true =>
      have hts : ¬ ((x >>> (n32 j &&& 31)) &&& (1 : Int32)) = 0 := fun q => by
        rw [ts_0 (show j < 32 by omega), hxj] at q; cases q
      by_cases hr : ((T.2.1 8 j >>> ((16 : Int32) &&& 31)) &&& x) = 0
      · have hr' : ∀ k, 16 + k ∈ aX A j → bt x k = false := fun k hk => by
          have hkr : rt A t k := rt_tr (b1 j (by omega) hxj) (rc_kid hk)
          have hk12 := hle32 k hkr
          have := (and_z (x := T.2.1 8 j >>> (n32 16 &&& 31)) (y := x)).mp hr k (by omega)
          rw [bt_sar (by omega) (by omega), h8, ((G.2.2 j hj12 (16 + k) (by omega)).2).mpr (rc_kid hk)] at this
          cases hh : bt x k with
          | false => rfl
          | true => exact absurd ⟨rfl, hh⟩ this
        obtain ⟨T', ⟨t1, t2, t3⟩, t4, t5⟩ := T_fg (fu := fu) (S := T) (X := aX A) (g := j) (kd := aK A j) (vt := aV A j) (nw := nw) hj12 (O.2.2.2.2.1 j).1 (O.len j) (fun c hc => ⟨O.lt28 hc, fun e => by
          subst e; exact absurd (O.2.2.2.2.2.2.1 j j hc) (by omega)⟩) (fun y hy => by rw [h7]; exact (G.2.2 j hj12 y hy).1) (O.2.2.2.1 j hj).1 (O.2.2.2.1 j hj).2.1 (by rw [h5]; exact (G.2.1 j hj).1) (by rw [h6]; exact (G.2.1 j hj).2) hnw (by rw [f1]; exact hW) hfu
        have bx : ∀ h, h < 32 → bt (x &&& (((1 : Int32) <<< (n32 j &&& 31)) ^^^ (-1 : Int32))) h = (bt x h && !decide (h = j)) := fun h hh => by
          rw [bt_and, bt_xor, bt_shl (by omega) hh, bt_m1 h hh]; cases decide (h = j) <;> rfl
        refine ⟨(x &&& (((1 : Int32) <<< (n32 j &&& 31)) ^^^ (-1 : Int32)), T'), ⟨⟨⟨t1.trans f1, fun q hq => (t2 q hq).trans (f2 q hq), fun q hq => (t3 q (by omega)).trans (f3 q hq)⟩, fun h hh hb => ?_, fun h hrt hb w hw b hbb => ?_⟩, fun h hh hb => ?_, fun g hg hq => ?_⟩, ?_⟩
        · rw [bx h hh, Bool.and_eq_true] at hb; exact b1 h hh hb.1
        · by_cases hhj : h = j
          · subst hhj
            have hcc : ∀ c, c ∈ aX A h → lb (T.2.2 (11 + c) w) b = cv (aH A) (64 * w + b) (evR A r (64 * w + b)) c := fun c hc => by
              rcases (O.2.2.2.2.2.1 h c hc).2 with hce | hce
              · rw [f3 (11 + c) (by omega), E c hce w hw b hbb]
                unfold cv; rw [if_neg (show ¬ 16 ≤ c by omega)]
              · obtain ⟨k, rfl⟩ : ∃ k, c = 16 + k := ⟨c - 16, by omega⟩
                rw [b2 k (rt_tr (b1 h (by omega) hxj) (rc_kid hc)) (hr' k hc) w hw b hbb]
                unfold cv; rw [if_pos (show 16 ≤ 16 + k by omega), show 16 + k - 16 = k from by omega]
            rw [t4 w hw b hbb, evR_eq O.2.2.2.2.2.2.1]
            unfold ge
            rw [show (aX A h).countP (fun c => lb (T.2.2 (11 + c) w) b) = (aX A h).countP (cv (aH A) (64 * w + b) (evR A r (64 * w + b))) from List.countP_congr (fun c hc => by rw [hcc c hc])]
          · rw [t3 _ (by omega)]
            rw [bx h (by have := hle32 h hrt; omega), decide_eq_false hhj] at hb
            simp at hb
            exact b2 h hrt hb w hw b hbb
        · rw [bx h hh, Bool.and_eq_true] at hb; exact h2 h hh hb.1
        · dsimp only
          by_cases hgj : g = j
          · subst hgj; rw [bx g (by omega), decide_eq_true rfl]; simp
          · rw [bx g (by omega), h3 g (by omega) hq]; rfl
        · show f_T_fillGates_27 fu k14 (n + 1) 9 4 x (n32 rd) (n32 j) (enc T) = f_T_fillGates_27 fu k14 n 9 4 _ (n32 rd) (n32 (j + 1)) (enc T')
          simp only [f_T_fillGates_27, f_T_fillGates_56, f_T_fillGates_88, Option.bind_some, is_0, gr_0_0, gr_0_1, gr_0_2, gr_0_3, gr_0_4, gr_0_5, gi_tp, pi_tp, gi_tf, pi_tf, gi_xf, pi_xf, is_1, gr_1_0, gr_1_1, gi_en, pi_en, is_4, gr_4_0, gr_4_1, gr_4_2, gr_4_3, gi_gn, pi_gn, is_9, gr_9_0, gr_9_1, gi_ts, pi_ts, gi_tw, pi_tw, gi_tc, pi_tc, is_40, gr_40_0, is_42, gr_42_0, gr_42_1, gi_dn, pi_dn, is_45, gr_45_0, gr_45_1, gi_xw, pi_xw, gi_xn, pi_xn, gi_xt, pi_xt, is_59, gi_mco, pi_mco, gi_mev, pi_mev, gr_59_2, gr_59_3, gi_mgt, pi_mgt, gr_59_5, gr_59_6, gr_59_7, gr_59_8, gi_mtp, pi_mtp, gr_59_10, gr_59_11, gr_59_12, gr_59_13, gr_59_14, gr_59_15, gi_mmy, pi_mmy, gr_59_17, gr_59_18, hN', if_neg hle, rd_gb hj12, if_pos hr, if_neg hts, if_neg (show ¬ (1 : Int32) = 0 by decide), t5, nl_add]
      · refine ⟨(x, T), ⟨⟨⟨f1, f2, f3⟩, b1, b2⟩, h2, fun g hg hq => ?_⟩, ?_⟩
        · by_cases hgj : g = j
          · subst hgj
            refine absurd ((and_z (x := T.2.1 8 g >>> (n32 16 &&& 31)) (y := x)).mpr (fun c hc => ?_)) hr
            rintro ⟨q1, q2⟩
            have hc12 := hle32 c (b1 c hc q2)
            rw [bt_sar (by omega) (by omega), h8] at q1
            have q3 := ((G.2.2 g hj12 (16 + c) (by omega)).2).mp q1
            have q4 := h2 c hc q2
            rw [hq c hc q3] at q4; cases q4
          · exact h3 g (by omega) hq
        · show f_T_fillGates_27 fu k14 (n + 1) 9 4 x (n32 rd) (n32 j) (enc T) = f_T_fillGates_27 fu k14 n 9 4 x (n32 rd) (n32 (j + 1)) (enc T)
          simp only [f_T_fillGates_27, f_T_fillGates_56, f_T_fillGates_88, Option.bind_some, is_0, gr_0_0, gr_0_1, gr_0_2, gr_0_3, gr_0_4, gr_0_5, gi_tp, pi_tp, gi_tf, pi_tf, gi_xf, pi_xf, is_1, gr_1_0, gr_1_1, gi_en, pi_en, is_4, gr_4_0, gr_4_1, gr_4_2, gr_4_3, gi_gn, pi_gn, is_9, gr_9_0, gr_9_1, gi_ts, pi_ts, gi_tw, pi_tw, gi_tc, pi_tc, is_40, gr_40_0, is_42, gr_42_0, gr_42_1, gi_dn, pi_dn, is_45, gr_45_0, gr_45_1, gi_xw, pi_xw, gi_xn, pi_xn, gi_xt, pi_xt, is_59, gi_mco, pi_mco, gi_mev, pi_mev, gr_59_2, gr_59_3, gi_mgt, pi_mgt, gr_59_5, gr_59_6, gr_59_7, gr_59_8, gi_mtp, pi_mtp, gr_59_10, gr_59_11, gr_59_12, gr_59_13, gr_59_14, gr_59_15, gi_mmy, pi_mmy, gr_59_17, gr_59_18, hN', if_neg hle, rd_gb hj12, if_neg hr, if_neg hts, if_true, nl_add])
  refine ⟨x, T, h1, h2, h3, Eq.trans e ?_⟩
  have hN' : T.1 4 4 = n32 (aG A) := by rw [h1.1.1]; exact G.1
  simp only [f_T_fillGates_27, Option.bind_some, is_0, gr_0_0, gr_0_1, gr_0_2, gr_0_3, gr_0_4, gr_0_5, gi_tp, pi_tp, gi_tf, pi_tf, gi_xf, pi_xf, is_1, gr_1_0, gr_1_1, gi_en, pi_en, is_4, gr_4_0, gr_4_1, gr_4_2, gr_4_3, gi_gn, pi_gn, is_9, gr_9_0, gr_9_1, gi_ts, pi_ts, gi_tw, pi_tw, gi_tc, pi_tc, is_40, gr_40_0, is_42, gr_42_0, gr_42_1, gi_dn, pi_dn, is_45, gr_45_0, gr_45_1, gi_xw, pi_xw, gi_xn, pi_xn, gi_xt, pi_xt, is_59, gi_mco, pi_mco, gi_mev, pi_mev, gr_59_2, gr_59_3, gi_mgt, pi_mgt, gr_59_5, gr_59_6, gr_59_7, gr_59_8, gi_mtp, pi_mtp, gr_59_10, gr_59_11, gr_59_12, gr_59_13, gr_59_14, gr_59_15, gi_mmy, pi_mmy, gr_59_17, gr_59_18, hN', if_pos (show n32 (aG A) ≤ n32 (aG A) from (n32_le (by omega) (by omega)).mpr (Nat.le_refl _)), nl_add]
theorem T_fgs14 (O : Ok A r) (G : RG U A) {t nw : Nat} (ht : t < aG A) (hnw : nw ≤ 16) (hW : U.1 9 3 = n32 nw) (E : EJ U A nw) (hfu : 200 ≤ fu) : ∀ (m n j : Nat) (x : Int32) (T : Ws), j + m = 12 → m < n → GJ U A r t nw x T → (Ls x 12).length + j ≤ 12 → ∃ T', GJ U A r t nw 0 T' ∧ f_T_fillGates_14 fu n 9 4 x (n32 j) (enc T) = some (enc T')
  | _, 0, _, _, _, _, h, _, _ => absurd h (by omega)
  | 0, n + 1, j, x, T, hj, _, J, hc => by
    obtain rfl : j = 12 := by omega
    have hx : x = 0 := bt_ext (fun k hk => by
      rw [bt_0]
      cases hb : bt x k with
      | false => rfl
      | true =>
        have h1 := rt_lt O ht (J.2.1 k hk hb)
        have h2 := O.2.1
        have : k ∈ Ls x 12 := List.mem_filter.mpr ⟨List.mem_range.mpr (by omega), hb⟩
        have := List.length_pos_of_mem this
        omega)
    subst hx
    refine ⟨T, J, ?_⟩
    simp only [f_T_fillGates_14, f_T_fillGates_100, if_true, ite_self]
  | m + 1, n + 1, j, x, T, hj, hn, J, hc => by
    by_cases hx : x = 0
    · subst hx
      refine ⟨T, J, ?_⟩
      simp only [f_T_fillGates_14, f_T_fillGates_100, if_true, ite_self]
    · obtain ⟨x', T', a1, a2, a3, a4⟩ := T_fgs27 (fu := fu) O G ht hnw hW E J hfu (f_T_fillGates_14 fu n) j
      obtain ⟨g0, hg0⟩ : ∃ g, g < 32 ∧ bt x g = true := Classical.byContradiction (fun q => hx (bt_ext (fun k hk => by
        rw [bt_0]
        cases hb : bt x k with
        | false => rfl
        | true => exact absurd ⟨k, hk, hb⟩ q)))
      obtain ⟨g, ⟨hg, hgx⟩, hmin⟩ := ex_min (r := r) (P := fun g => g < 32 ∧ bt x g = true) (r g0 + 1) g0 (by omega) hg0
      have hgg := rt_lt O ht (J.2.1 g hg hgx)
      have hG := O.2.1
      have hng : bt x' g = false := a3 g hgg (fun k hk hr => by
        cases hb : bt x k with
        | false => rfl
        | true =>
          have q1 := hmin k ⟨hk, hb⟩
          have q2 := Rk.rc O.2.2.2.2.2.2.1 hr
          omega)
      have hlen := List.Nodup.length_le_of_subset (l₁ := g :: Ls x' 12) (l₂ := Ls x 12) (List.nodup_cons.mpr ⟨fun q => absurd (List.mem_filter.mp q).2 (by rw [hng]; decide), List.Nodup.sublist List.filter_sublist List.nodup_range⟩) (fun y hy => by
        rcases List.mem_cons.mp hy with h | h
        · subst h; exact List.mem_filter.mpr ⟨List.mem_range.mpr (by omega), hgx⟩
        · have h5 := List.mem_filter.mp h
          have h6 := List.mem_range.mp h5.1
          exact List.mem_filter.mpr ⟨h5.1, a2 y (by omega) h5.2⟩)
      rw [List.length_cons] at hlen
      obtain ⟨T2, c1, c2⟩ := T_fgs14 O G ht hnw hW E hfu m n (j + 1) x' T' (by omega) (by omega) a1 (by omega)
      refine ⟨T2, c1, ?_⟩
      have h12 : ¬ (12 : Int32) ≤ n32 j := by rw [ln_le (by omega) (by omega)]; omega
      simp only [f_T_fillGates_14, if_neg h12, if_neg hx]
      exact a4.trans c2
theorem T_fgs (O : Ok A r) (G : RG U A) {t nw : Nat} (ht : t < aG A) (hnw : nw ≤ 16) (hW : U.1 9 3 = n32 nw) (hC : U.1 9 4 = n32 (16 + t)) (E : EJ U A nw) (hfu : 200 ≤ fu) : ∃ T, (T.1 = U.1 ∧ (∀ q, q ≠ 39 → T.2.1 q = U.2.1 q) ∧ (∀ q, q < 27 ∨ 39 ≤ q → T.2.2 q = U.2.2 q)) ∧ (∀ w, w < nw → ∀ b, b < 64 → lb (T.2.2 (11 + (16 + t)) w) b = evR A r (64 * w + b) t) ∧ f_T_fillGates fu 9 4 (enc U) = some (enc T) := by
  have hG := O.2.1
  obtain ⟨x, e, hx⟩ := G_wb (fu := fu) (S := U) (R := rc (aX A)) (fun g hg y hy => (G.2.2 g hg y hy).2) (c := 16 + t) (by omega)
  have hx2 : ∀ j, j < 16 → (bt x (16 + j) = true ↔ rt A t j) := fun j hj => by
    rw [hx (16 + j) (by omega)]
    constructor
    · rintro (h | ⟨h, e, hr⟩)
      · exact Or.inl (by omega)
      · obtain rfl : t = h := by omega
        exact Or.inr hr
    · rintro (h | h)
      · exact Or.inl (by omega)
      · exact Or.inr ⟨t, rfl, h⟩
  have J : GJ U A r t nw (x >>> (n32 16 &&& 31)) U := ⟨⟨rfl, fun _ _ => rfl, fun _ _ => rfl⟩, fun h hh hb => by
    by_cases h16 : h < 16
    · rw [bt_sar (by omega) (by omega)] at hb
      exact (hx2 h h16).mp hb
    · rw [bt_sar2 (by omega) hh (by omega)] at hb
      have := rt_lt O ht ((hx2 15 (by omega)).mp hb)
      omega, fun h hr hb => by
    have h1 := rt_lt O ht hr
    rw [bt_sar (by omega) (by omega), (hx2 h (by omega)).mpr hr] at hb
    cases hb⟩
  obtain ⟨T, t1, t2⟩ := T_fgs14 (fu := fu) O G ht hnw hW E hfu 12 fu 0 _ U (by omega) (by omega) J (by
    have : (Ls (x >>> (n32 16 &&& 31)) 12).length ≤ (List.range 12).length := List.length_filter_le _ _
    rw [List.length_range] at this; omega)
  refine ⟨T, t1.1, t1.2.2 t (Or.inl rfl) (bt_0 t), ?_⟩
  simp only [f_T_fillGates, Option.bind_some, is_0, gr_0_0, gr_0_1, gr_0_2, gr_0_3, gr_0_4, gr_0_5, gi_tp, pi_tp, gi_tf, pi_tf, gi_xf, pi_xf, is_1, gr_1_0, gr_1_1, gi_en, pi_en, is_4, gr_4_0, gr_4_1, gr_4_2, gr_4_3, gi_gn, pi_gn, is_9, gr_9_0, gr_9_1, gi_ts, pi_ts, gi_tw, pi_tw, gi_tc, pi_tc, is_40, gr_40_0, is_42, gr_42_0, gr_42_1, gi_dn, pi_dn, is_45, gr_45_0, gr_45_1, gi_xw, pi_xw, gi_xn, pi_xn, gi_xt, pi_xt, is_59, gi_mco, pi_mco, gi_mev, pi_mev, gr_59_2, gr_59_3, gi_mgt, pi_mgt, gr_59_5, gr_59_6, gr_59_7, gr_59_8, gi_mtp, pi_mtp, gr_59_10, gr_59_11, gr_59_12, gr_59_13, gr_59_14, gr_59_15, gi_mmy, pi_mmy, gr_59_17, gr_59_18, hC, e]
  exact t2
end
