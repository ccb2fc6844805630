/-! the desk's addAll -/
section
variable {fu : Nat} {f : Nat → Bool} {n : Nat}
theorem lb_tn (y : Int64) (c : Nat) : lb y c = y.toBitVec.toNat.testBit c := rfl
theorem l64_tn (y : Int64) : l64 y.toBitVec.toNat = y := lb_ext (fun k hk => by rw [lb_n, decide_eq_true hk, lb_tn]; rfl)
theorem lb_neg (y : Int64) {c : Nat} (hc : c < 64) : lb (-y) c = !lb (y - 1) c := by
  have h1 : (y - 1).toBitVec = ~~~(-y.toBitVec) := (BitVec.not_neg y.toBitVec).symm
  have h2 : lb (y - 1) c = (decide (c < 64) && !(-y.toBitVec).getLsbD c) := by
    unfold lb; rw [h1, BitVec.getLsbD_not]
  rw [h2, decide_eq_true hc]
  show (-y.toBitVec).getLsbD c = !(true && !(-y.toBitVec).getLsbD c)
  cases (-y.toBitVec).getLsbD c <;> rfl
theorem lb_low {y : Int64} (h : y ≠ 0) : ∃ b, b < 64 ∧ lb y b = true ∧ (∀ c, c < b → lb y c = false) ∧ (y &&& (-y)) - 1 = l64 (2 ^ b - 1) ∧ ∀ c, c < 64 → lb (y &&& (y - 1)) c = (lb y c && !decide (c = b)) := by
  obtain ⟨b0, hb0⟩ : ∃ b, b < 64 ∧ lb y b = true := Classical.byContradiction (fun q => h (lb_ext (fun k hk => by
    rw [lb_0]
    cases hb : lb y k with
    | false => rfl
    | true => exact absurd ⟨k, hk, hb⟩ q)))
  obtain ⟨b, ⟨hb, hbb⟩, hmin⟩ := ex_min (r := fun x => x) (P := fun b => b < 64 ∧ lb y b = true) (b0 + 1) b0 (by omega) hb0
  have hlow : ∀ c, c < b → lb y c = false := fun c hc => by
    cases hq : lb y c with
    | false => rfl
    | true => have := hmin c ⟨by omega, hq⟩; omega
  have hY := l64_tn y
  rw [lb_tn] at hbb
  have hlow' : ∀ c, c < b → y.toBitVec.toNat.testBit c = false := fun c hc => hlow c hc
  generalize y.toBitVec.toNat = Y at hY hbb hlow'
  have hm : Y % 2 ^ b = 0 := Nat.eq_of_testBit_eq (fun i => by
    rw [Nat.testBit_mod_two_pow, Nat.zero_testBit]
    by_cases hi : i < b
    · rw [hlow' i hi]; simp
    · rw [decide_eq_false hi]; rfl)
  have hodd : Y / 2 ^ b % 2 = 1 := by
    rw [Nat.testBit_eq_decide_div_mod_eq] at hbb; exact of_decide_eq_true hbb
  obtain ⟨a, ha⟩ : ∃ a, Y / 2 ^ b = 2 * a + 1 := ⟨Y / 2 ^ b / 2, by omega⟩
  have hYe : Y = (2 * a + 1) * 2 ^ b + 0 := by
    have := Nat.div_add_mod Y (2 ^ b)
    rw [hm, ha, Nat.mul_comm] at this; exact this.symm
  have hpb := Nat.two_pow_pos b
  have hY1 : Y - 1 = 2 * a * 2 ^ b + (2 ^ b - 1) := by
    rw [hYe, Nat.add_mul, Nat.one_mul]; omega
  have e1 : y - 1 = l64 (Y - 1) := by
    rw [← hY, show (1 : Int64) = l64 1 from rfl, l64_sub (by rw [hYe, Nat.add_mul, Nat.one_mul]; omega)]
  have by1 : ∀ c, c < 64 → lb (y - 1) c = if c < b then true else (2 * a).testBit (c - b) := fun c hc => by
    rw [e1, lb_n, decide_eq_true hc, hY1, tb_m (by omega), Bool.true_and]
    by_cases hcb : c < b
    · rw [if_pos hcb, if_pos hcb, Nat.testBit_two_pow_sub_one, decide_eq_true hcb]
    · rw [if_neg hcb, if_neg hcb]
  have byy : ∀ c, c < 64 → lb y c = if c < b then false else (2 * a + 1).testBit (c - b) := fun c hc => by
    rw [← hY, lb_n, decide_eq_true hc, hYe, tb_m (by omega), Bool.true_and, Nat.zero_testBit]
  have hsucc : ∀ j, (2 * a + 1).testBit (j + 1) = (2 * a).testBit (j + 1) := fun j => by
    rw [Nat.testBit_succ, Nat.testBit_succ]; congr 1; omega
  refine ⟨b, hb, ?_, hlow, ?_, fun c hc => ?_⟩
  · rw [byy b hb, if_neg (by omega), Nat.sub_self]; simp
  · have e2 : y &&& (-y) = l64 (2 ^ b) := lb_ext (fun c hc => by
      rw [lb_and, lb_neg y hc, by1 c hc, byy c hc, lb_n, decide_eq_true hc, Nat.testBit_two_pow, Bool.true_and]
      by_cases hcb : c < b
      · rw [if_pos hcb, if_pos hcb, decide_eq_false (by omega)]; rfl
      · rw [if_neg hcb, if_neg hcb]
        by_cases hcb2 : b = c
        · rw [decide_eq_true hcb2, hcb2, Nat.sub_self]; simp
        · rw [decide_eq_false hcb2]
          obtain ⟨j, hj⟩ : ∃ j, c - b = j + 1 := ⟨c - b - 1, by omega⟩
          rw [hj, hsucc]
          cases (2 * a).testBit (j + 1) <;> rfl)
    rw [e2, show (1 : Int64) = l64 1 from rfl, l64_sub Nat.one_le_two_pow]
  · rw [lb_and, by1 c hc, byy c hc]
    by_cases hcb : c < b
    · rw [if_pos hcb, if_pos hcb]; rfl
    · rw [if_neg hcb, if_neg hcb]
      by_cases hcb2 : c = b
      · rw [decide_eq_true hcb2, hcb2, Nat.sub_self]; simp
      · rw [decide_eq_false hcb2]
        obtain ⟨j, hj⟩ : ∃ j, c - b = j + 1 := ⟨c - b - 1, by omega⟩
        rw [hj, hsucc]
        cases (2 * a).testBit (j + 1) <;> rfl
theorem JL_64 : ∀ b, b < 64 → (f_JL_bitCount 0 (l64 (2 ^ b - 1)) []).map (fun p => p.1) = some (n32 b) := by decide +kernel
theorem JL_w {y : Int64} {w : List va_E} : f_JL_bitCount fu y w = ((f_JL_bitCount 0 y []).map (fun p => p.1)).map (fun c => (c, w)) := rfl
theorem JL_b {b : Nat} (hb : b < 64) {w : List va_E} : f_JL_bitCount fu (l64 (2 ^ b - 1)) w = some (n32 b, w) := by
  rw [JL_w, JL_64 b hb]; rfl
theorem pcc : ∀ k, k < 1024 → (List.range 32).countP (bt (n32 k)) = pc k := by decide +kernel
theorem n32_off {kept on : Nat} (hk : kept < 1024) (ho : ∀ e, on.testBit e = true → kept.testBit e = true) : n32 kept &&& (n32 on ^^^ (-1 : Int32)) = n32 (kept - on) := by
  apply bt_ext; intro j hj
  rw [bt_and, bt_xor, bt_m1 j hj, bt_n, bt_n, bt_n, sub_bits j kept on ho, decide_eq_true hj]
  cases kept.testBit j <;> cases on.testBit j <;> rfl
theorem key_n {kept on : Nat} (hk : kept < 1024) (ho : ∀ e, on.testBit e = true → kept.testBit e = true) : ((n32 (pc kept) <<< ((20 : Int32) &&& 31)) ||| (n32 on <<< ((10 : Int32) &&& 31))) ||| (n32 kept &&& (n32 on ^^^ (-1 : Int32))) = n32 (keyN kept on) := by
  have h1 : n32 (pc kept) <<< ((20 : Int32) &&& 31) = n32 (pc kept * 2 ^ 20) := n32_shln (k := 20) (by omega)
  have h2 : n32 on <<< ((10 : Int32) &&& 31) = n32 (on * 2 ^ 10) := n32_shln (k := 10) (by omega)
  have hle := sub_le ho
  rw [h1, h2, n32_off hk ho, n32_or, n32_or, Nat.or_assoc]
  congr 1
  unfold keyN
  have q1 := Nat.two_pow_add_eq_or_of_lt (i := 10) (b := kept - on) (by omega) on
  have q2 := Nat.two_pow_add_eq_or_of_lt (i := 20) (b := 2 ^ 10 * on + (kept - on)) (by omega) (pc kept)
  rw [Nat.mul_comm on, ← q1, Nat.mul_comm (pc kept), ← q2]
  omega
/-- the keys of the prime terms -/
def PrK (f : Nat → Bool) (n k : Nat) : Prop := ∃ kept on, isPr f n kept on ∧ k = keyN kept on
theorem PrK.lt {k : Nat} (hn : n ≤ 10) (h : PrK f n k) : k < 2147483648 := by
  obtain ⟨kept, on, h1, rfl⟩ := h
  have := h1.lt
  have := h1.1
  have := p10 hn
  have := pc_le kept
  unfold keyN
  omega
theorem X_add6 {kept first : Nat} (hn : n ≤ 10) (hk : kept < 2 ^ n) (hf : first < 1024) (hfu : 2000 ≤ fu) : ∀ (m nf i : Nat) (rest : Int64) (S : Ws) (Fnd : Nat → Prop), i + m = 64 → m < nf → (∀ c, c < i → lb rest c = false) → (∀ b, b < 64 → lb rest b = true → isPr f n kept (first + b)) → TS (PrK f n) S Fnd → (∀ k, Fnd k → PrK f n k) → (∀ b, b < 64 → lb rest b = true → ¬ Fnd (keyN kept (first + b))) → ∃ T, TS (PrK f n) T (fun x => Fnd x ∨ ∃ b, b < 64 ∧ lb rest b = true ∧ x = keyN kept (first + b)) ∧ FrX S T ∧ T.2.2 = S.2.2 ∧ f_X_addAll_6 fu nf 45 (n32 kept) (n32 first) rest (n32 i) (enc S) = some (enc T)
  | _, 0, _, _, _, _, _, h, _, _, _, _, _ => absurd h (by omega)
  | 0, nf + 1, i, rest, S, Fnd, hi, _, hlow, _, hT, _, _ => by
    obtain rfl : i = 64 := by omega
    refine ⟨S, hT.cg (fun k => ⟨Or.inl, fun q => q.elim id (fun ⟨b, b1, b2, _⟩ => by rw [hlow b b1] at b2; cases b2)⟩), FrX.rf, rfl, ?_⟩
    simp only [f_X_addAll_6, f_X_addAll_74, if_pos (show (64 : Int32) ≤ n32 64 by decide)]
  | m + 1, nf + 1, i, rest, S, Fnd, hi, hn1, hlow, hpr, hT, hFp, hnew => by
    have h64 : ¬ (64 : Int32) ≤ n32 i := by rw [ln_le (by omega) (by omega)]; omega
    by_cases h0 : rest = 0
    · refine ⟨S, hT.cg (fun k => ⟨Or.inl, fun q => q.elim id (fun ⟨b, b1, b2, _⟩ => by rw [h0, lb_0] at b2; cases b2)⟩), FrX.rf, rfl, ?_⟩
      simp only [f_X_addAll_6, f_X_addAll_74, if_neg h64, if_pos (lg_0.mpr h0)]
    · obtain ⟨b, b1, b2, b3, b4, b5⟩ := lb_low h0
      have hkp : kept < 1024 := Nat.lt_of_lt_of_le hk (p10 hn)
      have hp := hpr b b1 b2
      obtain ⟨T, t1, t2, t3, t4⟩ := X_insert (fu := fu) hT hFp ⟨kept, first + b, hp, rfl⟩ (fun k hk => hk.lt hn) (hnew b b1 b2) hfu
      have hbi : i ≤ b := Nat.le_of_not_lt (fun q => by rw [hlow b q] at b2; cases b2)
      obtain ⟨U, u1, u2, u3, u4⟩ := X_add6 hn hk hf hfu m nf (i + 1) (rest &&& (rest - 1)) T (fun x => Fnd x ∨ x = keyN kept (first + b)) (by omega) (by omega) (fun c hc => by
        rw [b5 c (by omega)]
        by_cases hcb : c = b
        · rw [decide_eq_true hcb]; simp
        · rw [b3 c (by omega)]; rfl) (fun c hc hcc => by
        rw [b5 c hc, Bool.and_eq_true] at hcc; exact hpr c hc hcc.1) t1 (fun k hk => hk.elim (hFp k) (fun e => ⟨kept, first + b, hp, e⟩)) (fun c hc hcc => by
        rw [b5 c hc, Bool.and_eq_true] at hcc
        rintro (q | q)
        · exact hnew c hc hcc.1 q
        · have hpc := hpr c hc hcc.1
          have := keyN_inj hkp (sub_le hpc.2.1) hkp (sub_le hp.2.1) q
          have hcb : c = b := by omega
          rw [decide_eq_true hcb] at hcc
          exact absurd hcc.2 (by decide))
      refine ⟨U, u1.cg (fun k => ?_), t2.tr u2, u3.trans t3, ?_⟩
      · constructor
        · rintro ((q | q) | ⟨c, c1, c2, c3⟩)
          · exact Or.inl q
          · exact Or.inr ⟨b, b1, b2, q⟩
          · rw [b5 c c1, Bool.and_eq_true] at c2
            exact Or.inr ⟨c, c1, c2.1, c3⟩
        · rintro (q | ⟨c, c1, c2, c3⟩)
          · exact Or.inl (Or.inl q)
          · by_cases hcb : c = b
            · rw [hcb] at c3; exact Or.inl (Or.inr c3)
            · exact Or.inr ⟨c, c1, by rw [b5 c c1, c2, decide_eq_false hcb]; rfl, c3⟩
      · simp only [f_X_addAll_6, Option.bind_some, is_0, gr_0_0, gr_0_1, gr_0_2, gr_0_3, gr_0_4, gr_0_5, gi_tp, pi_tp, gi_tf, pi_tf, gi_xf, pi_xf, is_1, gr_1_0, gr_1_1, gi_en, pi_en, is_4, gr_4_0, gr_4_1, gr_4_2, gr_4_3, gi_gn, pi_gn, is_9, gr_9_0, gr_9_1, gi_ts, pi_ts, gi_tw, pi_tw, gi_tc, pi_tc, is_40, gr_40_0, is_42, gr_42_0, gr_42_1, gi_dn, pi_dn, is_45, gr_45_0, gr_45_1, gi_xw, pi_xw, gi_xn, pi_xn, gi_xt, pi_xt, is_59, gi_mco, pi_mco, gi_mev, pi_mev, gr_59_2, gr_59_3, gi_mgt, pi_mgt, gr_59_5, gr_59_6, gr_59_7, gr_59_8, gi_mtp, pi_mtp, gr_59_10, gr_59_11, gr_59_12, gr_59_13, gr_59_14, gr_59_15, gi_mmy, pi_mmy, gr_59_17, gr_59_18, if_neg h64, if_neg (fun q => h0 (lg_0.mp q)), b4, JL_b b1, JI_bc, pcc kept hkp, n32_add, key_n hkp hp.2.1, t4, nl_add]
        exact u4
end
