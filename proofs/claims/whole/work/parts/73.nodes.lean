/-! nodes: the desk's count, the model's count -/
section
variable {fu : Nat} {S : Ws} {f : Nat → Bool}
def FrD (S T : Ws) : Prop := (∀ q, q ≠ 42 → T.1 q = S.1 q) ∧ (∀ q, q ≠ 43 → q ≠ 44 → T.2.1 q = S.2.1 q) ∧ T.2.2 = S.2.2
theorem D_48 {n : Nat} (hn : n ≤ 10) (h42 : S.1 42 2 = 0) (h0 : ∀ s, s < 2 ^ n → S.2.1 43 s = b32 (f s)) (hfu : 2000 ≤ fu) : ∃ T, FrD S T ∧ f_D_countNodes_48 fu fu 42 (n32 n) (n32 (2 ^ n)) 0 (enc S) = some (n32 (tN f n n), enc T) := by
  have hp := p10 hn
  obtain ⟨⟨c, T⟩, ⟨h1, h2, h3, h4, h5⟩, m, e1⟩ := lp0 (σ := (Nat → Nat) × Ws) (F := fun m e p => f_D_countNodes_48 fu m 42 (n32 n) (n32 (2 ^ (n - e))) (n32 e) (enc p.2)) (I := fun e p => FrD S p.2 ∧ p.2.1 42 2 = n32 (tN f n e) ∧ tN f n e + 2 ^ (n - e) ≤ 2 ^ n ∧ (∀ a, a < 2 ^ (n - e) → p.2.2.1 43 a = n32 (p.1 a) ∧ p.1 a < 2 + tN f n e) ∧ (∀ a b, a < 2 ^ (n - e) → b < 2 ^ (n - e) → (p.1 a = p.1 b ↔ alk f e a b = true))) (N := n) (n := fu) (s := (fun a => if f a = true then 1 else 0, S)) (by omega) ⟨⟨fun _ _ => rfl, fun _ _ _ => rfl, rfl⟩, h42, by show 0 + 2 ^ (n - 0) ≤ 2 ^ n; rw [Nat.sub_zero]; omega, fun a ha => by
      dsimp only
      rw [h0 a ha]
      show b32 (f a) = n32 (if f a = true then 1 else 0) ∧ (if f a = true then 1 else 0) < 2 + 0
      cases f a
      · exact ⟨rfl, by decide⟩
      · exact ⟨rfl, by decide⟩, fun a b _ _ => by
      rw [alk_iff]
      dsimp only
      constructor
      · intro h i hi
        obtain rfl : i = 0 := by rw [Nat.pow_zero] at hi; omega
        rw [Nat.pow_zero, Nat.mul_one, Nat.mul_one, Nat.add_zero, Nat.add_zero]
        cases ha : f a <;> cases hb : f b <;> rw [ha, hb] at h <;> simp at h ⊢
      · intro h
        have := h 0 (by simp)
        rw [Nat.pow_zero, Nat.mul_one, Nat.mul_one, Nat.add_zero, Nat.add_zero] at this
        rw [this]⟩ (fun m e p he hI => by
    obtain ⟨c, T⟩ := p
    obtain ⟨⟨f1, f2, f3⟩, h2, h3, h4, h5⟩ := hI
    dsimp only at f1 f2 f3 h2 h3 h4 h5
    have hle : ¬ n32 n ≤ n32 e := by rw [n32_le (by omega) (by omega)]; omega
    have hpe : 2 ^ (n - e) = 2 * 2 ^ (n - (e + 1)) := by
      rw [show n - e = n - (e + 1) + 1 from by omega, Nat.pow_succ]; omega
    have hpl := p10 (show n - e ≤ 10 by omega)
    have hd : n32 (2 ^ (n - e)) / (2 : Int32) = n32 (2 ^ (n - (e + 1))) := by
      rw [nl_div (by omega) (by omega) (by omega)]; congr 1; omega
    rw [hpe] at h3 h4 h5
    have hpos := Nat.two_pow_pos (n - (e + 1))
    obtain ⟨d, T', g, ge⟩ := D_67 (fu := fu) (S := T) (f := f) (c := c) (e := e) (first := tN f n e) (N := 2 ^ (n - (e + 1))) (by omega) h4 h5 (by omega) h2 hfu (n32 n) (n32 e) (f_D_countNodes_48 fu m)
    have hnx := g.nx (fun a ha => (h4 a ha).2) (by omega) h5
    have htn : tN f n (e + 1) = tN f n e + cN f e (2 ^ (n - (e + 1))) := by
      show tN f n e + cN f e (2 ^ (n - 1 - e)) = _
      rw [show n - 1 - e = n - (e + 1) from by omega]
    have hcl := cN_le (f := f) (e := e) (2 ^ (n - (e + 1)))
    obtain ⟨⟨q1, q2, q3⟩, q4, -, q5, -⟩ := g
    refine ⟨(d, T'), ⟨⟨fun q hq => (q1 q hq).trans (f1 q hq), fun q h43 h44 => (q2 q h43 h44).trans (f2 q h43 h44), q3.trans f3⟩, ?_, ?_, ?_, hnx⟩, ?_⟩
    · dsimp only; rw [htn]; exact q4
    · rw [htn]; omega
    · dsimp only; rw [htn]; exact q5
    · simp only [f_D_countNodes_48, Option.bind_some, is_0, gr_0_0, gr_0_1, gr_0_2, gr_0_3, gr_0_4, gr_0_5, gi_tp, pi_tp, gi_tf, pi_tf, gi_xf, pi_xf, is_1, gr_1_0, gr_1_1, gi_en, pi_en, is_4, gr_4_0, gr_4_1, gr_4_2, gr_4_3, gi_gn, pi_gn, is_9, gr_9_0, gr_9_1, gi_ts, pi_ts, gi_tw, pi_tw, gi_tc, pi_tc, is_40, gr_40_0, is_42, gr_42_0, gr_42_1, gi_dn, pi_dn, is_45, gr_45_0, gr_45_1, gi_xw, pi_xw, gi_xn, pi_xn, gi_xt, pi_xt, is_59, gi_mco, pi_mco, gi_mev, pi_mev, gr_59_2, gr_59_3, gi_mgt, pi_mgt, gr_59_5, gr_59_6, gr_59_7, gr_59_8, gi_mtp, pi_mtp, gr_59_10, gr_59_11, gr_59_12, gr_59_13, gr_59_14, gr_59_15, gi_mmy, pi_mmy, gr_59_17, gr_59_18, if_neg hle, h2, hd, ge, nl_add])
  refine ⟨T, h1, Eq.trans e1 ?_⟩
  dsimp only at h2
  simp only [f_D_countNodes_48, Option.bind_some, is_0, gr_0_0, gr_0_1, gr_0_2, gr_0_3, gr_0_4, gr_0_5, gi_tp, pi_tp, gi_tf, pi_tf, gi_xf, pi_xf, is_1, gr_1_0, gr_1_1, gi_en, pi_en, is_4, gr_4_0, gr_4_1, gr_4_2, gr_4_3, gi_gn, pi_gn, is_9, gr_9_0, gr_9_1, gi_ts, pi_ts, gi_tw, pi_tw, gi_tc, pi_tc, is_40, gr_40_0, is_42, gr_42_0, gr_42_1, gi_dn, pi_dn, is_45, gr_45_0, gr_45_1, gi_xw, pi_xw, gi_xn, pi_xn, gi_xt, pi_xt, is_59, gi_mco, pi_mco, gi_mev, pi_mev, gr_59_2, gr_59_3, gi_mgt, pi_mgt, gr_59_5, gr_59_6, gr_59_7, gr_59_8, gi_mtp, pi_mtp, gr_59_10, gr_59_11, gr_59_12, gr_59_13, gr_59_14, gr_59_15, gi_mmy, pi_mmy, gr_59_17, gr_59_18, h2, if_pos (show n32 n ≤ n32 n from (n32_le (by omega) (by omega)).mpr (Nat.le_refl _))]
theorem D_count {n t : Nat} (hn : n ≤ 10) (ht : t < 12) (B : Tb S n t f) (hfu : 2000 ≤ fu) : ∃ T, FrD S T ∧ f_D_countNodes fu 42 9 (n32 n) (enc S) = some (n32 (tN f n n), enc T) := by
  have hp := p10 hn
  obtain ⟨T, ⟨⟨f1, f2, f3⟩, t0, t2⟩, m, e⟩ := lp0 (F := fun m s T => f_D_countNodes_12 fu m 42 9 (n32 n) (n32 (2 ^ n)) (n32 s) (enc T)) (I := fun s T => FrD S T ∧ T.1 42 2 = 0 ∧ ∀ j, j < s → T.2.1 43 j = b32 (f j)) (N := 2 ^ n) (n := fu) (s := sS S 42 2 0) (by omega) ⟨⟨fun q hq => by rw [sS1, if_neg hq], fun _ _ _ => rfl, rfl⟩, rfl, fun j hj => absurd hj (by omega)⟩ (fun m s T hs hI => by
    obtain ⟨⟨f1, f2, f3⟩, h0, h2⟩ := hI
    have hle : ¬ n32 (2 ^ n) ≤ n32 s := by rw [n32_le (by omega) (by omega)]; omega
    have BT : Tb T n t f := ⟨by rw [f1 9 (by omega)]; exact B.1, by rw [f1 9 (by omega)]; exact B.2.1, by rw [f1 9 (by omega)]; exact B.2.2.1, fun s hs => by rw [f3]; exact B.2.2.2 s hs⟩
    have e1 := T_isTrue (fu := fu) hn ht hs BT (and_mks hs)
    refine ⟨sI T 43 s (b32 (f s)), ⟨⟨f1, fun q h43 h44 => by rw [sI2, if_neg h43]; exact f2 q h43 h44, f3⟩, h0, fun j hj => ?_⟩, ?_⟩
    · rw [sI2, if_pos rfl, upd_at]
      by_cases hjs : j = s
      · subst hjs; rw [if_pos rfl]
      · rw [if_neg hjs]; exact h2 j (by omega)
    · simp only [f_D_countNodes_12, f_D_countNodes_38, Option.bind_some, is_0, gr_0_0, gr_0_1, gr_0_2, gr_0_3, gr_0_4, gr_0_5, gi_tp, pi_tp, gi_tf, pi_tf, gi_xf, pi_xf, is_1, gr_1_0, gr_1_1, gi_en, pi_en, is_4, gr_4_0, gr_4_1, gr_4_2, gr_4_3, gi_gn, pi_gn, is_9, gr_9_0, gr_9_1, gi_ts, pi_ts, gi_tw, pi_tw, gi_tc, pi_tc, is_40, gr_40_0, is_42, gr_42_0, gr_42_1, gi_dn, pi_dn, is_45, gr_45_0, gr_45_1, gi_xw, pi_xw, gi_xn, pi_xn, gi_xt, pi_xt, is_59, gi_mco, pi_mco, gi_mev, pi_mev, gr_59_2, gr_59_3, gi_mgt, pi_mgt, gr_59_5, gr_59_6, gr_59_7, gr_59_8, gi_mtp, pi_mtp, gr_59_10, gr_59_11, gr_59_12, gr_59_13, gr_59_14, gr_59_15, gi_mmy, pi_mmy, gr_59_17, gr_59_18, if_neg hle, e1, b32_0, wr_dc (show s < 1024 by omega), nl_add]
      cases f s <;> rfl)
  obtain ⟨U, ⟨u1, u2, u3⟩, u4⟩ := D_48 (fu := fu) (S := T) (f := f) hn t0 t2 hfu
  refine ⟨U, ⟨fun q hq => (u1 q hq).trans (f1 q hq), fun q h43 h44 => (u2 q h43 h44).trans (f2 q h43 h44), u3.trans f3⟩, ?_⟩
  simp only [f_D_countNodes, Option.bind_some, is_0, gr_0_0, gr_0_1, gr_0_2, gr_0_3, gr_0_4, gr_0_5, gi_tp, pi_tp, gi_tf, pi_tf, gi_xf, pi_xf, is_1, gr_1_0, gr_1_1, gi_en, pi_en, is_4, gr_4_0, gr_4_1, gr_4_2, gr_4_3, gi_gn, pi_gn, is_9, gr_9_0, gr_9_1, gi_ts, pi_ts, gi_tw, pi_tw, gi_tc, pi_tc, is_40, gr_40_0, is_42, gr_42_0, gr_42_1, gi_dn, pi_dn, is_45, gr_45_0, gr_45_1, gi_xw, pi_xw, gi_xn, pi_xn, gi_xt, pi_xt, is_59, gi_mco, pi_mco, gi_mev, pi_mev, gr_59_2, gr_59_3, gi_mgt, pi_mgt, gr_59_5, gr_59_6, gr_59_7, gr_59_8, gi_mtp, pi_mtp, gr_59_10, gr_59_11, gr_59_12, gr_59_13, gr_59_14, gr_59_15, gi_mmy, pi_mmy, gr_59_17, gr_59_18, n32_shl (show n < 31 by omega)]
  refine Eq.trans e ?_
  simp only [f_D_countNodes_12, if_pos (show n32 (2 ^ n) ≤ n32 (2 ^ n) from (n32_le (by omega) (by omega)).mpr (Nat.le_refl _))]
  exact u4
theorem n32_shln {a k : Nat} (h : k < 32) : n32 a <<< (n32 k &&& 31) = n32 (a * 2 ^ k) := by
  apply bt_ext; intro j hj
  rw [n32_31 h, bt_n, Nat.testBit_mul_two_pow]
  unfold bt
  rw [Int32.toBitVec_shiftLeft, n32_smod k h]
  have hk : (BitVec.ofNat 32 k).toNat = k := by simp; omega
  rw [BitVec.shiftLeft_eq', hk, BitVec.getLsbD_shiftLeft]
  have h1 := bt_n a (j - k)
  unfold bt at h1
  rw [h1, decide_eq_true hj, decide_eq_true (show j - k < 32 by omega)]
  by_cases hjk : j < k
  · rw [decide_eq_true hjk, decide_eq_false (show ¬ k ≤ j by omega)]; rfl
  · rw [decide_eq_false hjk, decide_eq_true (show k ≤ j by omega)]; rfl
theorem b32_inj {a b : Bool} : b32 a = b32 b ↔ a = b := by cases a <;> cases b <;> decide
theorem blk {n e j : Nat} (he : e < n) (hj : j < 2 ^ (n - 1 - e)) : j * 2 ^ (e + 1) + 2 ^ (e + 1) ≤ 2 ^ n := by
  have h1 : (j + 1) * 2 ^ (e + 1) ≤ 2 ^ (n - 1 - e) * 2 ^ (e + 1) := Nat.mul_le_mul_right _ hj
  rw [← Nat.pow_add, show n - 1 - e + (e + 1) = n from by omega, Nat.add_mul, Nat.one_mul] at h1
  exact h1
theorem M_mat {n e j : Nat} (hn : n ≤ 10) (he : e < n) (hj : j < 2 ^ (n - 1 - e)) (hf : ∀ s, s < 2 ^ n → S.2.1 70 s = b32 (f s)) (hfu : 2000 ≤ fu) : f_M_matters fu 59 (n32 e) (n32 j) (enc S) = some (b32 (!alk f e (2 * j) (2 * j + 1)), enc S) := by
  have hp := p10 hn
  have hb := blk he hj
  have hpe := p10 (show e ≤ 10 by omega)
  rw [Nat.pow_succ] at hb
  obtain ⟨b, hbb, m, e1⟩ := lp0 (F := fun m i b => f_M_matters_5 fu m 59 (n32 e) (n32 j) (b32 b) (n32 i) (enc S)) (I := fun i b => b = true ↔ ∃ i', i' < i ∧ f (j * 2 ^ (e + 1) + i') ≠ f (j * 2 ^ (e + 1) + (2 ^ e + i'))) (N := 2 ^ e) (n := fu) (s := false) (by omega) (by simp) (fun m i b hi hI => by
    have hle : ¬ n32 (2 ^ e) ≤ n32 i := by rw [n32_le (by omega) (by omega)]; omega
    rw [Nat.pow_succ] at hI ⊢
    cases b with
    | true =>
      obtain ⟨i', h1, h2⟩ := hI.mp rfl
      refine ⟨true, ⟨fun _ => ⟨i', by omega, h2⟩, fun _ => rfl⟩, ?_⟩
      simp only [f_M_matters_5, f_M_matters_50, f_M_matters_55, n32_shl (show e < 31 by omega), if_neg hle, b32_0, Bool.true_eq_false, if_false, nl_add]; rfl
    | false =>
      have hno : ∀ i', i' < i → f (j * (2 ^ e * 2) + i') = f (j * (2 ^ e * 2) + (2 ^ e + i')) := fun i' hi' => Classical.byContradiction (fun q => by cases hI.mpr ⟨i', hi', q⟩)
      have r1 := hf (j * (2 ^ e * 2) + i) (by omega)
      have r2 := hf (j * (2 ^ e * 2) + 2 ^ e + i) (by omega)
      by_cases hq : f (j * (2 ^ e * 2) + i) = f (j * (2 ^ e * 2) + 2 ^ e + i)
      · refine ⟨false, ⟨fun h => (by cases h), fun h => ?_⟩, ?_⟩
        · obtain ⟨i', h1, h2⟩ := h
          by_cases hii : i' = i
          · subst hii; rw [Nat.add_assoc] at hq; exact absurd hq h2
          · exact absurd (hno i' (by omega)) h2
        · simp only [f_M_matters_5, f_M_matters_50, f_M_matters_55, Option.bind_some, is_0, gr_0_0, gr_0_1, gr_0_2, gr_0_3, gr_0_4, gr_0_5, gi_tp, pi_tp, gi_tf, pi_tf, gi_xf, pi_xf, is_1, gr_1_0, gr_1_1, gi_en, pi_en, is_4, gr_4_0, gr_4_1, gr_4_2, gr_4_3, gi_gn, pi_gn, is_9, gr_9_0, gr_9_1, gi_ts, pi_ts, gi_tw, pi_tw, gi_tc, pi_tc, is_40, gr_40_0, is_42, gr_42_0, gr_42_1, gi_dn, pi_dn, is_45, gr_45_0, gr_45_1, gi_xw, pi_xw, gi_xn, pi_xn, gi_xt, pi_xt, is_59, gi_mco, pi_mco, gi_mev, pi_mev, gr_59_2, gr_59_3, gi_mgt, pi_mgt, gr_59_5, gr_59_6, gr_59_7, gr_59_8, gi_mtp, pi_mtp, gr_59_10, gr_59_11, gr_59_12, gr_59_13, gr_59_14, gr_59_15, gi_mmy, pi_mmy, gr_59_17, gr_59_18, n32_shl (show e < 31 by omega), if_neg hle, b32_0, if_true, nl_add, n32_shln (show e + 1 < 32 by omega), Nat.pow_succ, n32_add, rd_mtr (show j * (2 ^ e * 2) + i < 1024 by omega), rd_mtr (show j * (2 ^ e * 2) + 2 ^ e + i < 1024 by omega), r1, r2, b32_inj, if_pos hq]; rfl
      · refine ⟨true, ⟨fun _ => ⟨i, by omega, by rw [← Nat.add_assoc]; exact hq⟩, fun _ => rfl⟩, ?_⟩
        simp only [f_M_matters_5, f_M_matters_50, f_M_matters_55, Option.bind_some, is_0, gr_0_0, gr_0_1, gr_0_2, gr_0_3, gr_0_4, gr_0_5, gi_tp, pi_tp, gi_tf, pi_tf, gi_xf, pi_xf, is_1, gr_1_0, gr_1_1, gi_en, pi_en, is_4, gr_4_0, gr_4_1, gr_4_2, gr_4_3, gi_gn, pi_gn, is_9, gr_9_0, gr_9_1, gi_ts, pi_ts, gi_tw, pi_tw, gi_tc, pi_tc, is_40, gr_40_0, is_42, gr_42_0, gr_42_1, gi_dn, pi_dn, is_45, gr_45_0, gr_45_1, gi_xw, pi_xw, gi_xn, pi_xn, gi_xt, pi_xt, is_59, gi_mco, pi_mco, gi_mev, pi_mev, gr_59_2, gr_59_3, gi_mgt, pi_mgt, gr_59_5, gr_59_6, gr_59_7, gr_59_8, gi_mtp, pi_mtp, gr_59_10, gr_59_11, gr_59_12, gr_59_13, gr_59_14, gr_59_15, gi_mmy, pi_mmy, gr_59_17, gr_59_18, n32_shl (show e < 31 by omega), if_neg hle, b32_0, if_true, nl_add, n32_shln (show e + 1 < 32 by omega), Nat.pow_succ, n32_add, rd_mtr (show j * (2 ^ e * 2) + i < 1024 by omega), rd_mtr (show j * (2 ^ e * 2) + 2 ^ e + i < 1024 by omega), r1, r2, b32_inj, if_neg hq]; rfl)
  have hbe : b = !alk f e (2 * j) (2 * j + 1) := by
    cases hA : alk f e (2 * j) (2 * j + 1) with
    | true =>
      cases b with
      | false => rfl
      | true =>
        obtain ⟨i', h1, h2⟩ := hbb.mp rfl
        have := alk_iff.mp hA i' h1
        rw [pw2, pw3] at this
        exact absurd this h2
    | false =>
      cases b with
      | true => rfl
      | false =>
        have : alk f e (2 * j) (2 * j + 1) = true := alk_iff.mpr (fun i hi => Classical.byContradiction (fun q => by
          rw [pw2, pw3] at q
          cases hbb.mpr ⟨i, hi, q⟩))
        rw [hA] at this; cases this
  rw [← hbe]
  refine Eq.trans e1 ?_
  simp only [f_M_matters_5, n32_shl (show e < 31 by omega), if_pos (show n32 (2 ^ e) ≤ n32 (2 ^ e) from (n32_le (by omega) (by omega)).mpr (Nat.le_refl _)), if_pos (b32_ok b)]
theorem M_alike6 {n e j j' : Nat} (hn : n ≤ 10) (he : e < n) (hj : j < 2 ^ (n - 1 - e)) (hj' : j' < 2 ^ (n - 1 - e)) (hf : ∀ s, s < 2 ^ n → S.2.1 70 s = b32 (f s)) : ∀ (m k i : Nat), i + m = 2 ^ (e + 1) → m < k → (∀ i', i' < i → f (j * 2 ^ (e + 1) + i') = f (j' * 2 ^ (e + 1) + i')) → f_M_alike_6 fu k 59 (n32 e) (n32 j) (n32 j') 1 (n32 i) (enc S) = some (b32 (alk f (e + 1) j j'), enc S)
  | _, 0, _, _, h, _ => absurd h (by omega)
  | 0, k + 1, i, hi, _, hall => by
    have hpe := p10 (show e + 1 ≤ 10 by omega)
    obtain rfl : i = 2 ^ (e + 1) := by omega
    have hA : alk f (e + 1) j j' = true := alk_iff.mpr hall
    have h2 : (2 : Int32) <<< (n32 e &&& 31) = n32 (2 ^ (e + 1)) := by
      rw [show (2 : Int32) = n32 2 from rfl, n32_shln (by omega), Nat.pow_succ, Nat.mul_comm]
    simp only [f_M_alike_6, f_M_alike_61, h2, if_pos (show n32 (2 ^ (e + 1)) ≤ n32 (2 ^ (e + 1)) from (n32_le (by omega) (by omega)).mpr (Nat.le_refl _)), hA, or_true, if_true]; rfl
  | m + 1, k + 1, i, hi, hk, hall => by
    have hpe := p10 (show e + 1 ≤ 10 by omega)
    have hp := p10 hn
    have hb := blk he hj
    have hb' := blk he hj'
    have h2 : (2 : Int32) <<< (n32 e &&& 31) = n32 (2 ^ (e + 1)) := by
      rw [show (2 : Int32) = n32 2 from rfl, n32_shln (by omega), Nat.pow_succ, Nat.mul_comm]
    have hle : ¬ n32 (2 ^ (e + 1)) ≤ n32 i := by rw [n32_le (by omega) (by omega)]; omega
    have r1 := hf (j * 2 ^ (e + 1) + i) (by omega)
    have r2 := hf (j' * 2 ^ (e + 1) + i) (by omega)
    by_cases hq : f (j * 2 ^ (e + 1) + i) = f (j' * 2 ^ (e + 1) + i)
    · have ih := M_alike6 hn he hj hj' hf m k (i + 1) (by omega) (by omega) (fun i' hi' => by
        by_cases hii : i' = i
        · subst hii; exact hq
        · exact hall i' (by omega))
      simp only [f_M_alike_6, f_M_alike_53, Option.bind_some, is_0, gr_0_0, gr_0_1, gr_0_2, gr_0_3, gr_0_4, gr_0_5, gi_tp, pi_tp, gi_tf, pi_tf, gi_xf, pi_xf, is_1, gr_1_0, gr_1_1, gi_en, pi_en, is_4, gr_4_0, gr_4_1, gr_4_2, gr_4_3, gi_gn, pi_gn, is_9, gr_9_0, gr_9_1, gi_ts, pi_ts, gi_tw, pi_tw, gi_tc, pi_tc, is_40, gr_40_0, is_42, gr_42_0, gr_42_1, gi_dn, pi_dn, is_45, gr_45_0, gr_45_1, gi_xw, pi_xw, gi_xn, pi_xn, gi_xt, pi_xt, is_59, gi_mco, pi_mco, gi_mev, pi_mev, gr_59_2, gr_59_3, gi_mgt, pi_mgt, gr_59_5, gr_59_6, gr_59_7, gr_59_8, gi_mtp, pi_mtp, gr_59_10, gr_59_11, gr_59_12, gr_59_13, gr_59_14, gr_59_15, gi_mmy, pi_mmy, gr_59_17, gr_59_18, h2, if_neg hle, if_neg (show ¬ (1 : Int32) = 0 by decide), nl_add, n32_shln (show e + 1 < 32 by omega), n32_add, rd_mtr (show j * 2 ^ (e + 1) + i < 1024 by omega), rd_mtr (show j' * 2 ^ (e + 1) + i < 1024 by omega), r1, r2, b32_inj, if_pos hq]
      exact ih
    · have hA : alk f (e + 1) j j' = false := by
        cases h : alk f (e + 1) j j' with
        | false => rfl
        | true => exact absurd (alk_iff.mp h i (by omega)) hq
      obtain ⟨k', rfl⟩ : ∃ k', k = k' + 1 := ⟨k - 1, by omega⟩
      simp only [f_M_alike_6, f_M_alike_53, f_M_alike_61, Option.bind_some, is_0, gr_0_0, gr_0_1, gr_0_2, gr_0_3, gr_0_4, gr_0_5, gi_tp, pi_tp, gi_tf, pi_tf, gi_xf, pi_xf, is_1, gr_1_0, gr_1_1, gi_en, pi_en, is_4, gr_4_0, gr_4_1, gr_4_2, gr_4_3, gi_gn, pi_gn, is_9, gr_9_0, gr_9_1, gi_ts, pi_ts, gi_tw, pi_tw, gi_tc, pi_tc, is_40, gr_40_0, is_42, gr_42_0, gr_42_1, gi_dn, pi_dn, is_45, gr_45_0, gr_45_1, gi_xw, pi_xw, gi_xn, pi_xn, gi_xt, pi_xt, is_59, gi_mco, pi_mco, gi_mev, pi_mev, gr_59_2, gr_59_3, gi_mgt, pi_mgt, gr_59_5, gr_59_6, gr_59_7, gr_59_8, gi_mtp, pi_mtp, gr_59_10, gr_59_11, gr_59_12, gr_59_13, gr_59_14, gr_59_15, gi_mmy, pi_mmy, gr_59_17, gr_59_18, h2, if_neg hle, if_neg (show ¬ (1 : Int32) = 0 by decide), nl_add, n32_shln (show e + 1 < 32 by omega), n32_add, rd_mtr (show j * 2 ^ (e + 1) + i < 1024 by omega), rd_mtr (show j' * 2 ^ (e + 1) + i < 1024 by omega), r1, r2, b32_inj, if_neg hq, if_true, ite_self, true_or, hA]; rfl
theorem M_alike {n e j j' : Nat} (hn : n ≤ 10) (he : e < n) (hj : j < 2 ^ (n - 1 - e)) (hj' : j' < 2 ^ (n - 1 - e)) (hf : ∀ s, s < 2 ^ n → S.2.1 70 s = b32 (f s)) (hfu : 2000 ≤ fu) : f_M_alike fu 59 (n32 e) (n32 j) (n32 j') (enc S) = some (b32 (alk f (e + 1) j j'), enc S) := by
  have hpe := p10 (show e + 1 ≤ 10 by omega)
  exact M_alike6 (fu := fu) hn he hj hj' hf (2 ^ (e + 1)) fu 0 (by omega) (by omega) (fun i h => absurd h (by omega))
theorem M_49 {n e j : Nat} (hn : n ≤ 10) (he : e < n) (hj : j < 2 ^ (n - 1 - e)) (hf : ∀ s, s < 2 ^ n → S.2.1 70 s = b32 (f s)) (hfu : 2000 ≤ fu) (k14 : Nat → Int32 → Int32 → List va_E → Option (Int32 × List va_E)) (k24 : Nat → Int32 → Int32 → Int32 → List va_E → Option (Int32 × List va_E)) (v1 : Int32) : ∀ (m k i : Nat) (b : Bool), i + m = j → m < k → ∃ b' : Bool, (b' = true ↔ (b = true ∧ ∀ j', i ≤ j' → j' < j → alk f (e + 1) j j' = false)) ∧ f_M_nodes_49 fu k14 k24 k 59 v1 (n32 e) (n32 j) (b32 b) (n32 i) (enc S) = k24 59 (v1 + b32 b') (n32 e) (n32 (j + 1)) (enc S)
  | _, 0, _, _, _, h => absurd h (by omega)
  | 0, k + 1, i, b, hi, _ => by
    have hpj := p10 (show n - 1 - e ≤ 10 by omega)
    obtain rfl : i = j := by omega
    refine ⟨b, ⟨fun h => ⟨h, fun j' h1 h2 => absurd h1 (by omega)⟩, fun h => h.1⟩, ?_⟩
    simp only [f_M_nodes_49, f_M_nodes_84, f_M_nodes_95, if_pos (show n32 i ≤ n32 i from (n32_le (by omega) (by omega)).mpr (Nat.le_refl _)), b32_0, nl_add]
    cases b <;> rfl
  | m + 1, k + 1, i, b, hi, hk => by
    have hpj := p10 (show n - 1 - e ≤ 10 by omega)
    have hle : ¬ n32 j ≤ n32 i := by rw [n32_le (by omega) (by omega)]; omega
    cases b with
    | false =>
      refine ⟨false, ⟨fun h => (by cases h), fun h => h.1⟩, ?_⟩
      simp only [f_M_nodes_49, f_M_nodes_84, f_M_nodes_95, if_neg hle, b32_0, if_true, nl_add]; rfl
    | true =>
      have ea := M_alike (fu := fu) hn he hj (show i < 2 ^ (n - 1 - e) by omega) hf hfu
      cases hA : alk f (e + 1) j i with
      | true =>
        obtain ⟨b', h1, h2⟩ := M_49 hn he hj hf hfu k14 k24 v1 m k (i + 1) false (by omega) (by omega)
        refine ⟨b', ⟨fun h => absurd (h1.mp h).1 (by decide), fun h => by have := h.2 i (by omega) (by omega); rw [hA] at this; cases this⟩, ?_⟩
        simp only [f_M_nodes_49, f_M_nodes_76, Option.bind_some, is_0, gr_0_0, gr_0_1, gr_0_2, gr_0_3, gr_0_4, gr_0_5, gi_tp, pi_tp, gi_tf, pi_tf, gi_xf, pi_xf, is_1, gr_1_0, gr_1_1, gi_en, pi_en, is_4, gr_4_0, gr_4_1, gr_4_2, gr_4_3, gi_gn, pi_gn, is_9, gr_9_0, gr_9_1, gi_ts, pi_ts, gi_tw, pi_tw, gi_tc, pi_tc, is_40, gr_40_0, is_42, gr_42_0, gr_42_1, gi_dn, pi_dn, is_45, gr_45_0, gr_45_1, gi_xw, pi_xw, gi_xn, pi_xn, gi_xt, pi_xt, is_59, gi_mco, pi_mco, gi_mev, pi_mev, gr_59_2, gr_59_3, gi_mgt, pi_mgt, gr_59_5, gr_59_6, gr_59_7, gr_59_8, gi_mtp, pi_mtp, gr_59_10, gr_59_11, gr_59_12, gr_59_13, gr_59_14, gr_59_15, gi_mmy, pi_mmy, gr_59_17, gr_59_18, if_neg hle, b32_0, Bool.true_eq_false, if_false, ea, hA, nl_add]
        exact h2
      | false =>
        obtain ⟨b', h1, h2⟩ := M_49 hn he hj hf hfu k14 k24 v1 m k (i + 1) true (by omega) (by omega)
        refine ⟨b', ⟨fun h => ⟨rfl, fun j' q1 q2 => ?_⟩, fun h => h1.mpr ⟨rfl, fun j' q1 q2 => h.2 j' (by omega) q2⟩⟩, ?_⟩
        · by_cases hji : j' = i
          · rw [hji]; exact hA
          · exact (h1.mp h).2 j' (by omega) q2
        · simp only [f_M_nodes_49, f_M_nodes_76, Option.bind_some, is_0, gr_0_0, gr_0_1, gr_0_2, gr_0_3, gr_0_4, gr_0_5, gi_tp, pi_tp, gi_tf, pi_tf, gi_xf, pi_xf, is_1, gr_1_0, gr_1_1, gi_en, pi_en, is_4, gr_4_0, gr_4_1, gr_4_2, gr_4_3, gi_gn, pi_gn, is_9, gr_9_0, gr_9_1, gi_ts, pi_ts, gi_tw, pi_tw, gi_tc, pi_tc, is_40, gr_40_0, is_42, gr_42_0, gr_42_1, gi_dn, pi_dn, is_45, gr_45_0, gr_45_1, gi_xw, pi_xw, gi_xn, pi_xn, gi_xt, pi_xt, is_59, gi_mco, pi_mco, gi_mev, pi_mev, gr_59_2, gr_59_3, gi_mgt, pi_mgt, gr_59_5, gr_59_6, gr_59_7, gr_59_8, gi_mtp, pi_mtp, gr_59_10, gr_59_11, gr_59_12, gr_59_13, gr_59_14, gr_59_15, gi_mmy, pi_mmy, gr_59_17, gr_59_18, if_neg hle, b32_0, Bool.true_eq_false, if_false, ea, hA, if_true, nl_add]
          exact h2
theorem M_24 {n e : Nat} (hn : n ≤ 10) (he : e < n) (hE : S.1 59 1 = n32 n) (hf : ∀ s, s < 2 ^ n → S.2.1 70 s = b32 (f s)) (hfu : 2000 ≤ fu) (k14 : Nat → Int32 → Int32 → List va_E → Option (Int32 × List va_E)) : f_M_nodes_24 fu k14 fu 59 (n32 (tN f n e)) (n32 e) 0 (enc S) = k14 59 (n32 (tN f n (e + 1))) (n32 (e + 1)) (enc S) := by
  have hpj := p10 (show n - 1 - e ≤ 10 by omega)
  have hx : (n32 n - (1 : Int32)) - n32 e = n32 (n - 1 - e) := by
    rw [nl_sub (show 1 ≤ n by omega), n32_sub (by omega)]
  obtain ⟨y, hy, m, e1⟩ := lp0 (F := fun m j y => f_M_nodes_24 fu k14 m 59 (n32 y) (n32 e) (n32 j) (enc S)) (I := fun j y => y = tN f n e + cN f e j) (N := 2 ^ (n - 1 - e)) (n := fu) (s := tN f n e) (by omega) rfl (fun m j y hj hI => by
    obtain rfl := hI
    have hle : ¬ n32 (2 ^ (n - 1 - e)) ≤ n32 j := by rw [n32_le (by omega) (by omega)]; omega
    refine ⟨_, rfl, ?_⟩
    have e2 := M_mat (fu := fu) hn he hj hf hfu
    obtain ⟨b', h1, h2⟩ := M_49 (fu := fu) (S := S) hn he hj hf hfu k14 (f_M_nodes_24 fu k14 m) (n32 (tN f n e + cN f e j)) j fu 0 (!alk f e (2 * j) (2 * j + 1)) (by omega) (by omega)
    have hb : b' = nw f e j := by
      have : b' = true ↔ nw f e j = true := by
        rw [h1, nw_iff, Bool.not_eq_true']
        exact ⟨fun h => ⟨h.1, fun j' hj' => h.2 j' (by omega) hj'⟩, fun h => ⟨h.1, fun j' _ hj' => h.2 j' hj'⟩⟩
      cases b' <;> cases hnn : nw f e j <;> simp [hnn] at this ⊢
    simp only [f_M_nodes_24, Option.bind_some, is_0, gr_0_0, gr_0_1, gr_0_2, gr_0_3, gr_0_4, gr_0_5, gi_tp, pi_tp, gi_tf, pi_tf, gi_xf, pi_xf, is_1, gr_1_0, gr_1_1, gi_en, pi_en, is_4, gr_4_0, gr_4_1, gr_4_2, gr_4_3, gi_gn, pi_gn, is_9, gr_9_0, gr_9_1, gi_ts, pi_ts, gi_tw, pi_tw, gi_tc, pi_tc, is_40, gr_40_0, is_42, gr_42_0, gr_42_1, gi_dn, pi_dn, is_45, gr_45_0, gr_45_1, gi_xw, pi_xw, gi_xn, pi_xn, gi_xt, pi_xt, is_59, gi_mco, pi_mco, gi_mev, pi_mev, gr_59_2, gr_59_3, gi_mgt, pi_mgt, gr_59_5, gr_59_6, gr_59_7, gr_59_8, gi_mtp, pi_mtp, gr_59_10, gr_59_11, gr_59_12, gr_59_13, gr_59_14, gr_59_15, gi_mmy, pi_mmy, gr_59_17, gr_59_18, hE, hx, n32_shl (show n - 1 - e < 31 by omega), if_neg hle, e2]
    refine Eq.trans h2 ?_
    rw [hb]
    show f_M_nodes_24 fu k14 m 59 (n32 (tN f n e + cN f e j) + b32 (nw f e j)) (n32 e) (n32 (j + 1)) (enc S) = f_M_nodes_24 fu k14 m 59 (n32 (tN f n e + (cN f e j + (if nw f e j = true then 1 else 0)))) (n32 e) (n32 (j + 1)) (enc S)
    cases nw f e j
    · rw [show b32 false = n32 0 from rfl, n32_add]; rfl
    · rw [show b32 true = n32 1 from rfl, n32_add]; rfl)
  obtain rfl := hy
  refine Eq.trans e1 ?_
  simp only [f_M_nodes_24, Option.bind_some, is_0, gr_0_0, gr_0_1, gr_0_2, gr_0_3, gr_0_4, gr_0_5, gi_tp, pi_tp, gi_tf, pi_tf, gi_xf, pi_xf, is_1, gr_1_0, gr_1_1, gi_en, pi_en, is_4, gr_4_0, gr_4_1, gr_4_2, gr_4_3, gi_gn, pi_gn, is_9, gr_9_0, gr_9_1, gi_ts, pi_ts, gi_tw, pi_tw, gi_tc, pi_tc, is_40, gr_40_0, is_42, gr_42_0, gr_42_1, gi_dn, pi_dn, is_45, gr_45_0, gr_45_1, gi_xw, pi_xw, gi_xn, pi_xn, gi_xt, pi_xt, is_59, gi_mco, pi_mco, gi_mev, pi_mev, gr_59_2, gr_59_3, gi_mgt, pi_mgt, gr_59_5, gr_59_6, gr_59_7, gr_59_8, gi_mtp, pi_mtp, gr_59_10, gr_59_11, gr_59_12, gr_59_13, gr_59_14, gr_59_15, gi_mmy, pi_mmy, gr_59_17, gr_59_18, hE, hx, n32_shl (show n - 1 - e < 31 by omega), if_pos (show n32 (2 ^ (n - 1 - e)) ≤ n32 (2 ^ (n - 1 - e)) from (n32_le (by omega) (by omega)).mpr (Nat.le_refl _)), nl_add]
  rfl
theorem M_nodes14 {n : Nat} (hn : n ≤ 10) (hE : S.1 59 1 = n32 n) (hf : ∀ s, s < 2 ^ n → S.2.1 70 s = b32 (f s)) (hfu : 2000 ≤ fu) : f_M_nodes_14 fu fu 59 0 0 (enc S) = some (n32 (tN f n n), enc S) := by
  obtain ⟨y, hy, m, e1⟩ := lp0 (F := fun m e y => f_M_nodes_14 fu m 59 (n32 y) (n32 e) (enc S)) (I := fun e y => y = tN f n e) (N := n) (n := fu) (s := 0) (by omega) rfl (fun m e y he hI => by
    obtain rfl := hI
    have hle : ¬ n32 n ≤ n32 e := by rw [n32_le (by omega) (by omega)]; omega
    refine ⟨_, rfl, ?_⟩
    simp only [f_M_nodes_14, Option.bind_some, is_0, gr_0_0, gr_0_1, gr_0_2, gr_0_3, gr_0_4, gr_0_5, gi_tp, pi_tp, gi_tf, pi_tf, gi_xf, pi_xf, is_1, gr_1_0, gr_1_1, gi_en, pi_en, is_4, gr_4_0, gr_4_1, gr_4_2, gr_4_3, gi_gn, pi_gn, is_9, gr_9_0, gr_9_1, gi_ts, pi_ts, gi_tw, pi_tw, gi_tc, pi_tc, is_40, gr_40_0, is_42, gr_42_0, gr_42_1, gi_dn, pi_dn, is_45, gr_45_0, gr_45_1, gi_xw, pi_xw, gi_xn, pi_xn, gi_xt, pi_xt, is_59, gi_mco, pi_mco, gi_mev, pi_mev, gr_59_2, gr_59_3, gi_mgt, pi_mgt, gr_59_5, gr_59_6, gr_59_7, gr_59_8, gi_mtp, pi_mtp, gr_59_10, gr_59_11, gr_59_12, gr_59_13, gr_59_14, gr_59_15, gi_mmy, pi_mmy, gr_59_17, gr_59_18, hE, if_neg hle]
    exact M_24 (fu := fu) hn he hE hf hfu (f_M_nodes_14 fu m))
  obtain rfl := hy
  refine Eq.trans e1 ?_
  simp only [f_M_nodes_14, Option.bind_some, is_0, gr_0_0, gr_0_1, gr_0_2, gr_0_3, gr_0_4, gr_0_5, gi_tp, pi_tp, gi_tf, pi_tf, gi_xf, pi_xf, is_1, gr_1_0, gr_1_1, gi_en, pi_en, is_4, gr_4_0, gr_4_1, gr_4_2, gr_4_3, gi_gn, pi_gn, is_9, gr_9_0, gr_9_1, gi_ts, pi_ts, gi_tw, pi_tw, gi_tc, pi_tc, is_40, gr_40_0, is_42, gr_42_0, gr_42_1, gi_dn, pi_dn, is_45, gr_45_0, gr_45_1, gi_xw, pi_xw, gi_xn, pi_xn, gi_xt, pi_xt, is_59, gi_mco, pi_mco, gi_mev, pi_mev, gr_59_2, gr_59_3, gi_mgt, pi_mgt, gr_59_5, gr_59_6, gr_59_7, gr_59_8, gi_mtp, pi_mtp, gr_59_10, gr_59_11, gr_59_12, gr_59_13, gr_59_14, gr_59_15, gi_mmy, pi_mmy, gr_59_17, gr_59_18, hE, if_pos (show n32 n ≤ n32 n from (n32_le (by omega) (by omega)).mpr (Nat.le_refl _))]
end
section
variable {fu : Nat} {S : Ws} {A : Ab} {r : Nat → Nat}
theorem Inv.frd {T : Ws} (I : Inv S A r) (h : FrD S T) : Inv T A r := by
  refine I.cg (h.1 0 (by omega)) (h.1 1 (by omega)) (h.1 4 (by omega)) (h.1 9 (by omega)) (h.1 45 (by omega)) ?_ ?_ ?_ ?_ ?_
  · rw [h.1 59 (by omega)]
  · rw [h.1 59 (by omega)]
  · rw [h.1 59 (by omega)]
  · intro q hq
    refine h.2.1 q ?_ ?_ <;> (intro e; subst e; simp at hq)
  · intro q _ _; rw [h.2.2]
theorem c_nodes (I : Inv S A r) (hfu : 2000 ≤ fu) : Cas (f_L_nodes fu 0 74) (f_M_nodes fu 59) S := by
  obtain ⟨O, D, M, T, X⟩ := id I
  have hT := D.2.2.2.2.2.1
  cases ht : aT A with
  | none =>
    rw [ht] at hT
    refine Cas.no I (k := 1) (by decide) ?_ ?_
    · simp only [f_L_nodes, f_F_nodes, Option.bind_some, is_0, gr_0_0, gr_0_1, gr_0_2, gr_0_3, gr_0_4, gr_0_5, gi_tp, pi_tp, gi_tf, pi_tf, gi_xf, pi_xf, is_1, gr_1_0, gr_1_1, gi_en, pi_en, is_4, gr_4_0, gr_4_1, gr_4_2, gr_4_3, gi_gn, pi_gn, is_9, gr_9_0, gr_9_1, gi_ts, pi_ts, gi_tw, pi_tw, gi_tc, pi_tc, is_40, gr_40_0, is_42, gr_42_0, gr_42_1, gi_dn, pi_dn, is_45, gr_45_0, gr_45_1, gi_xw, pi_xw, gi_xn, pi_xn, gi_xt, pi_xt, is_59, gi_mco, pi_mco, gi_mev, pi_mev, gr_59_2, gr_59_3, gi_mgt, pi_mgt, gr_59_5, gr_59_6, gr_59_7, gr_59_8, gi_mtp, pi_mtp, gr_59_10, gr_59_11, gr_59_12, gr_59_13, gr_59_14, gr_59_15, gi_mmy, pi_mmy, gr_59_17, gr_59_18, F_needTop (t := none) (fun _ h => by cases h) hT, hx_inl, hl_inl, if_true]
    · simp only [f_M_nodes, Option.bind_some, is_0, gr_0_0, gr_0_1, gr_0_2, gr_0_3, gr_0_4, gr_0_5, gi_tp, pi_tp, gi_tf, pi_tf, gi_xf, pi_xf, is_1, gr_1_0, gr_1_1, gi_en, pi_en, is_4, gr_4_0, gr_4_1, gr_4_2, gr_4_3, gi_gn, pi_gn, is_9, gr_9_0, gr_9_1, gi_ts, pi_ts, gi_tw, pi_tw, gi_tc, pi_tc, is_40, gr_40_0, is_42, gr_42_0, gr_42_1, gi_dn, pi_dn, is_45, gr_45_0, gr_45_1, gi_xw, pi_xw, gi_xn, pi_xn, gi_xt, pi_xt, is_59, gi_mco, pi_mco, gi_mev, pi_mev, gr_59_2, gr_59_3, gi_mgt, pi_mgt, gr_59_5, gr_59_6, gr_59_7, gr_59_8, gi_mtp, pi_mtp, gr_59_10, gr_59_11, gr_59_12, gr_59_13, gr_59_14, gr_59_15, gi_mmy, pi_mmy, gr_59_17, gr_59_18, M_lacks0 M ht (v := 1) (by decide), if_neg (show ¬ (1 : Int32) = 0 by decide)]
  | some t =>
    have htg := O.2.2.2.2.2.2.2 t ht
    have hG := O.2.1
    have hE := O.1
    rw [ht] at hT
    obtain ⟨U, F, IU, B, eU⟩ := F_fresh (fu := fu) I ht (by omega)
    obtain ⟨V, v1, v2⟩ := D_count (fu := fu) (S := U) hE (show t < 12 by omega) B hfu
    have IV := IU.frd v1
    generalize hN : tN (fun s => evR A r s t) (aE A) (aE A) = N at v2
    obtain ⟨W, w1, w2, w3⟩ := M_lacks1 (fu := fu) (S := sL V 74 0 (n32 N).toInt64) O (IV.out _).2.2.1 ht (v := 1) hfu
    have IW := ((IV.out (n32 N).toInt64).code 0).frw w1
    have e7 := M_nodes14 (fu := fu) (f := fun s => evR A r s t) hE IW.2.2.1.1 w2 hfu
    rw [hN] at e7
    refine ⟨0, sL V 74 0 (n32 N).toInt64, n32 N, W, ?_, ?_, ?_, fun _ => ?_, A, r, IW⟩
    · simp only [f_L_nodes, f_F_nodes, Option.bind_some, is_0, gr_0_0, gr_0_1, gr_0_2, gr_0_3, gr_0_4, gr_0_5, gi_tp, pi_tp, gi_tf, pi_tf, gi_xf, pi_xf, is_1, gr_1_0, gr_1_1, gi_en, pi_en, is_4, gr_4_0, gr_4_1, gr_4_2, gr_4_3, gi_gn, pi_gn, is_9, gr_9_0, gr_9_1, gi_ts, pi_ts, gi_tw, pi_tw, gi_tc, pi_tc, is_40, gr_40_0, is_42, gr_42_0, gr_42_1, gi_dn, pi_dn, is_45, gr_45_0, gr_45_1, gi_xw, pi_xw, gi_xn, pi_xn, gi_xt, pi_xt, is_59, gi_mco, pi_mco, gi_mev, pi_mev, gr_59_2, gr_59_3, gi_mgt, pi_mgt, gr_59_5, gr_59_6, gr_59_7, gr_59_8, gi_mtp, pi_mtp, gr_59_10, gr_59_11, gr_59_12, gr_59_13, gr_59_14, gr_59_15, gi_mmy, pi_mmy, gr_59_17, gr_59_18, F_needTop (t := some t) (fun k h => by obtain rfl := Option.some.inj h; omega) hT, hx_inr, eU, IU.2.1.1, v2, hl_inr, wr_out0]
    · simp only [f_M_nodes, Option.bind_some, is_0, gr_0_0, gr_0_1, gr_0_2, gr_0_3, gr_0_4, gr_0_5, gi_tp, pi_tp, gi_tf, pi_tf, gi_xf, pi_xf, is_1, gr_1_0, gr_1_1, gi_en, pi_en, is_4, gr_4_0, gr_4_1, gr_4_2, gr_4_3, gi_gn, pi_gn, is_9, gr_9_0, gr_9_1, gi_ts, pi_ts, gi_tw, pi_tw, gi_tc, pi_tc, is_40, gr_40_0, is_42, gr_42_0, gr_42_1, gi_dn, pi_dn, is_45, gr_45_0, gr_45_1, gi_xw, pi_xw, gi_xn, pi_xn, gi_xt, pi_xt, is_59, gi_mco, pi_mco, gi_mev, pi_mev, gr_59_2, gr_59_3, gi_mgt, pi_mgt, gr_59_5, gr_59_6, gr_59_7, gr_59_8, gi_mtp, pi_mtp, gr_59_10, gr_59_11, gr_59_12, gr_59_13, gr_59_14, gr_59_15, gi_mmy, pi_mmy, gr_59_17, gr_59_18, w3, if_true, e7]
    · rw [w1.1]; rfl
    · rw [w1.2.1]; rfl
end
