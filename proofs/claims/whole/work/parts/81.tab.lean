/-! the model's table of causes -/
section
variable {fu : Nat} {S : Ws} {f : Nat → Bool} {n : Nat}
theorem p3 {e : Nat} (h : e ≤ 10) : 3 ^ e ≤ 59049 := Nat.pow_le_pow_right (n := 3) (by omega) h
theorem M_power {e : Nat} {w : List va_E} (he : e ≤ 10) (hfu : 2000 ≤ fu) : f_M_power fu (n32 e) w = some (n32 (3 ^ e), w) := by
  obtain ⟨y, hy, m, e1⟩ := lp0 (F := fun m i y => f_M_power_4 fu m (n32 e) (n32 y) (n32 i) w) (I := fun i y => y = 3 ^ i) (N := e) (n := fu) (s := 1) (by omega) rfl (fun m i y hi hI => by
    obtain rfl := hI
    have hle : ¬ n32 e ≤ n32 i := by rw [n32_le (by omega) (by omega)]; omega
    refine ⟨_, rfl, ?_⟩
    simp only [f_M_power_4, if_neg hle, ln_mul, nl_add]
    rw [Nat.pow_succ, Nat.mul_comm])
  obtain rfl := hy
  refine Eq.trans e1 ?_
  simp only [f_M_power_4, if_pos (show n32 e ≤ n32 e from (n32_le (by omega) (by omega)).mpr (Nat.le_refl _))]
/-- the bit of a code -/
def cb (S : Ws) (c : Nat) : Bool := lb (S.2.2 71 (c / 64)) (c % 64)
theorem lb_sar0 {y : Int64} {k : Nat} (hk : k < 64) : lb (y >>> ((n32 k).toInt64 &&& 63)) 0 = lb y k := by
  unfold lb
  rw [Int64.toBitVec_shiftRight, n64_smod k hk]
  have hkk : (BitVec.ofNat 64 k).toNat = k := by simp; omega
  unfold BitVec.sshiftRight'
  rw [hkk, BitVec.getLsbD_sshiftRight, if_pos (show k + 0 < 64 by omega)]; rfl
theorem sar1 {y : Int64} {k : Nat} (hk : k < 64) : lg_cmp ((y >>> ((n32 k).toInt64 &&& 63)) &&& (1 : Int64)) (1 : Int64) = 0 ↔ lb y k = true := by
  rw [lg_0]
  constructor
  · intro q
    have := congrArg (fun z => lb z 0) q
    simp only [lb_and, lb_sar0 hk, lb_1] at this
    simpa using this
  · intro q
    apply lb_ext; intro j hj
    rw [lb_and, lb_1]
    by_cases h0 : j = 0
    · subst h0; rw [lb_sar0 hk, q]; rfl
    · rw [decide_eq_false h0, Bool.and_false]
theorem n32_64 {c : Nat} (hc : c < 2147483648) : n32 c / (64 : Int32) = n32 (c / 64) ∧ n32 c - n32 (c / 64 * 64) = n32 (c % 64) := by
  refine ⟨nl_div hc (by omega) (by omega), ?_⟩
  rw [n32_sub (by omega)]; congr 1; omega
theorem M_isCause {c : Nat} (hc : c < 59049) : f_M_isCause fu 59 (n32 c) (enc S) = some (b32 (cb S c), enc S) := by
  obtain ⟨h1, h2⟩ := n32_64 (c := c) (by omega)
  simp only [f_M_isCause, f_M_isCause_26, Option.bind_some, is_0, gr_0_0, gr_0_1, gr_0_2, gr_0_3, gr_0_4, gr_0_5, gi_tp, pi_tp, gi_tf, pi_tf, gi_xf, pi_xf, is_1, gr_1_0, gr_1_1, gi_en, pi_en, is_4, gr_4_0, gr_4_1, gr_4_2, gr_4_3, gi_gn, pi_gn, is_9, gr_9_0, gr_9_1, gi_ts, pi_ts, gi_tw, pi_tw, gi_tc, pi_tc, is_40, gr_40_0, is_42, gr_42_0, gr_42_1, gi_dn, pi_dn, is_45, gr_45_0, gr_45_1, gi_xw, pi_xw, gi_xn, pi_xn, gi_xt, pi_xt, is_59, gi_mco, pi_mco, gi_mev, pi_mev, gr_59_2, gr_59_3, gi_mgt, pi_mgt, gr_59_5, gr_59_6, gr_59_7, gr_59_8, gi_mtp, pi_mtp, gr_59_10, gr_59_11, gr_59_12, gr_59_13, gr_59_14, gr_59_15, gi_mmy, pi_mmy, gr_59_17, gr_59_18, h1, nl_mul, h2, rd_mca (show c / 64 < 923 by omega), sar1 (show c % 64 < 64 by omega)]
  unfold cb
  cases lb (S.2.2 71 (c / 64)) (c % 64) <;> rfl
theorem n32_3 {c : Nat} (hc : c < 2147483648) : n32 c / (3 : Int32) = n32 (c / 3) ∧ n32 c - n32 (c / 3 * 3) = n32 (c % 3) := by
  refine ⟨nl_div hc (by omega) (by omega), ?_⟩
  rw [n32_sub (by omega)]; congr 1; omega
theorem M_set7 {c : Nat} (hn : n ≤ 10) (hc : c < 59049) (hE : S.1 59 1 = n32 n) : ∀ (m nf e a : Nat), e + m = n → m < nf → a < 2 ^ e → (∀ j, j < e → tdg c j ≠ 2 ∧ a.testBit j = decide (tdg c j = 1)) → (∃ e', e' < n ∧ tdg c e' = 2 ∧ f_M_settingOf_7 fu nf 59 (n32 a) (n32 (c / 3 ^ e)) (n32 e) (enc S) = some ((-1 : Int32) - n32 e', enc S)) ∨ ((∀ j, j < n → tdg c j ≠ 2) ∧ f_M_settingOf_7 fu nf 59 (n32 a) (n32 (c / 3 ^ e)) (n32 e) (enc S) = some (n32 (ON n c), enc S))
  | _, 0, _, _, _, h, _, _ => absurd h (by omega)
  | 0, nf + 1, e, a, he, _, ha, hall => by
    obtain rfl : e = n := by omega
    refine Or.inr ⟨fun j hj => (hall j hj).1, ?_⟩
    have hON : a = ON e c := tbn_uq ha (fun j hj => (hall j hj).2)
    simp only [f_M_settingOf_7, Option.bind_some, is_0, gr_0_0, gr_0_1, gr_0_2, gr_0_3, gr_0_4, gr_0_5, gi_tp, pi_tp, gi_tf, pi_tf, gi_xf, pi_xf, is_1, gr_1_0, gr_1_1, gi_en, pi_en, is_4, gr_4_0, gr_4_1, gr_4_2, gr_4_3, gi_gn, pi_gn, is_9, gr_9_0, gr_9_1, gi_ts, pi_ts, gi_tw, pi_tw, gi_tc, pi_tc, is_40, gr_40_0, is_42, gr_42_0, gr_42_1, gi_dn, pi_dn, is_45, gr_45_0, gr_45_1, gi_xw, pi_xw, gi_xn, pi_xn, gi_xt, pi_xt, is_59, gi_mco, pi_mco, gi_mev, pi_mev, gr_59_2, gr_59_3, gi_mgt, pi_mgt, gr_59_5, gr_59_6, gr_59_7, gr_59_8, gi_mtp, pi_mtp, gr_59_10, gr_59_11, gr_59_12, gr_59_13, gr_59_14, gr_59_15, gi_mmy, pi_mmy, gr_59_17, gr_59_18, hE, if_pos (show n32 e ≤ n32 e from (n32_le (by omega) (by omega)).mpr (Nat.le_refl _)), hON]
  | m + 1, nf + 1, e, a, he, hnf, ha, hall => by
    have hle : ¬ n32 n ≤ n32 e := by rw [n32_le (by omega) (by omega)]; omega
    have hcd : c / 3 ^ e ≤ c := Nat.div_le_self _ _
    obtain ⟨d1, d2⟩ := n32_3 (c := c / 3 ^ e) (by omega)
    have hdd : c / 3 ^ e % 3 = tdg c e := rfl
    have e2 : c / 3 ^ e / 3 = c / 3 ^ (e + 1) := by rw [Nat.div_div_eq_div_mul, Nat.pow_succ]
    rw [hdd, e2] at d2
    rw [e2] at d1
    have h3 := tdg_lt c e
    by_cases h2 : tdg c e = 2
    · refine Or.inl ⟨e, by omega, h2, ?_⟩
      simp only [f_M_settingOf_7, Option.bind_some, is_0, gr_0_0, gr_0_1, gr_0_2, gr_0_3, gr_0_4, gr_0_5, gi_tp, pi_tp, gi_tf, pi_tf, gi_xf, pi_xf, is_1, gr_1_0, gr_1_1, gi_en, pi_en, is_4, gr_4_0, gr_4_1, gr_4_2, gr_4_3, gi_gn, pi_gn, is_9, gr_9_0, gr_9_1, gi_ts, pi_ts, gi_tw, pi_tw, gi_tc, pi_tc, is_40, gr_40_0, is_42, gr_42_0, gr_42_1, gi_dn, pi_dn, is_45, gr_45_0, gr_45_1, gi_xw, pi_xw, gi_xn, pi_xn, gi_xt, pi_xt, is_59, gi_mco, pi_mco, gi_mev, pi_mev, gr_59_2, gr_59_3, gi_mgt, pi_mgt, gr_59_5, gr_59_6, gr_59_7, gr_59_8, gi_mtp, pi_mtp, gr_59_10, gr_59_11, gr_59_12, gr_59_13, gr_59_14, gr_59_15, gi_mmy, pi_mmy, gr_59_17, gr_59_18, hE, if_neg hle, d1, nl_mul, d2, h2, show n32 2 = (2 : Int32) from rfl, if_true]
    · have hne : ¬ n32 (tdg c e) = (2 : Int32) := fun q => h2 ((nl_eq (by omega) (by omega)).mp q)
      have hpe := p10 (show e ≤ 10 by omega)
      have hor : a ||| tdg c e * 2 ^ e = tdg c e * 2 ^ e + a := by
        have := Nat.two_pow_add_eq_or_of_lt (i := e) (b := a) ha (tdg c e)
        rw [Nat.or_comm, Nat.mul_comm, ← this]
      have step : f_M_settingOf_7 fu (nf + 1) 59 (n32 a) (n32 (c / 3 ^ e)) (n32 e) (enc S) = f_M_settingOf_7 fu nf 59 (n32 (tdg c e * 2 ^ e + a)) (n32 (c / 3 ^ (e + 1))) (n32 (e + 1)) (enc S) := by
        simp only [f_M_settingOf_7, Option.bind_some, is_0, gr_0_0, gr_0_1, gr_0_2, gr_0_3, gr_0_4, gr_0_5, gi_tp, pi_tp, gi_tf, pi_tf, gi_xf, pi_xf, is_1, gr_1_0, gr_1_1, gi_en, pi_en, is_4, gr_4_0, gr_4_1, gr_4_2, gr_4_3, gi_gn, pi_gn, is_9, gr_9_0, gr_9_1, gi_ts, pi_ts, gi_tw, pi_tw, gi_tc, pi_tc, is_40, gr_40_0, is_42, gr_42_0, gr_42_1, gi_dn, pi_dn, is_45, gr_45_0, gr_45_1, gi_xw, pi_xw, gi_xn, pi_xn, gi_xt, pi_xt, is_59, gi_mco, pi_mco, gi_mev, pi_mev, gr_59_2, gr_59_3, gi_mgt, pi_mgt, gr_59_5, gr_59_6, gr_59_7, gr_59_8, gi_mtp, pi_mtp, gr_59_10, gr_59_11, gr_59_12, gr_59_13, gr_59_14, gr_59_15, gi_mmy, pi_mmy, gr_59_17, gr_59_18, hE, if_neg hle, d1, nl_mul, d2, if_neg hne, n32_shln (show e < 32 by omega), n32_or, hor, nl_add]
      have := M_set7 hn hc hE m nf (e + 1) (tdg c e * 2 ^ e + a) (by omega) (by omega) (by
        rw [Nat.pow_succ]
        have : tdg c e * 2 ^ e ≤ 1 * 2 ^ e := Nat.mul_le_mul_right _ (by omega)
        omega) (fun j hj => by
        rw [tb_m ha]
        by_cases hje : j < e
        · rw [if_pos hje]; exact hall j hje
        · obtain rfl : j = e := by omega
          rw [if_neg hje, Nat.sub_self]
          refine ⟨h2, ?_⟩
          rcases (show tdg c j = 0 ∨ tdg c j = 1 by omega) with h | h <;> rw [h] <;> rfl)
      rw [step]; exact this
theorem M_set {c : Nat} (hn : n ≤ 10) (hc : c < 59049) (hE : S.1 59 1 = n32 n) (hfu : 2000 ≤ fu) : (∃ e', e' < n ∧ tdg c e' = 2 ∧ f_M_settingOf fu 59 (n32 c) (enc S) = some ((-1 : Int32) - n32 e', enc S)) ∨ ((∀ j, j < n → tdg c j ≠ 2) ∧ f_M_settingOf fu 59 (n32 c) (enc S) = some (n32 (ON n c), enc S)) := by
  have := M_set7 (fu := fu) (S := S) (c := c) hn hc hE n fu 0 0 (by omega) (by omega) (by simp) (fun j h => absurd h (by omega))
  rw [Nat.pow_zero, Nat.div_one] at this
  exact this
theorem lb_sh1 {k j : Nat} (hk : k < 64) (hj : j < 64) : lb ((1 : Int64) <<< ((n32 k).toInt64 &&& 63)) j = decide (j = k) := by
  rw [lb_shl hk, lb_1, decide_eq_true hj]
  by_cases h1 : j < k
  · rw [decide_eq_true h1, decide_eq_false (show ¬ j = k by omega)]; rfl
  · rw [decide_eq_false h1]
    by_cases h2 : j = k
    · rw [decide_eq_true h2, decide_eq_true (show j - k = 0 by omega)]; rfl
    · rw [decide_eq_false h2, decide_eq_false (show ¬ j - k = 0 by omega)]; rfl
theorem neg_1 : ∀ e, e < 10 → (-1 : Int32) - n32 e < 0 ∧ (-1 : Int32) - ((-1 : Int32) - n32 e) = n32 e := by decide
theorem M_79 {c : Nat} {v1 : Int32} (hc : c < 59049) (b : Bool) (k10 : Nat → Int32 → Int32 → List va_E → Option (Int32 × List va_E)) : ∃ y : Int64, (∀ j, j < 64 → lb y j = if j = c % 64 then b else lb (S.2.2 71 (c / 64)) j) ∧ f_M_findPrimes_79 fu k10 59 v1 (n32 c) (b32 b) (enc S) = k10 59 v1 (n32 (c + 1)) (enc (sL S 71 (c / 64) y)) := by
  obtain ⟨h1, h2⟩ := n32_64 (c := c) (by omega)
  cases b with
  | false =>
    refine ⟨S.2.2 71 (c / 64) &&& (((1 : Int64) <<< ((n32 (c % 64)).toInt64 &&& 63)) ^^^ (-1 : Int64)), fun j hj => ?_, ?_⟩
    · rw [lb_and, lb_xor, lb_sh1 (by omega) hj, lb_m1 j hj]
      by_cases h : j = c % 64
      · rw [if_pos h, decide_eq_true h]; simp
      · rw [if_neg h, decide_eq_false h]; simp
    · simp only [f_M_findPrimes_79, f_M_findPrimes_133, Option.bind_some, is_0, gr_0_0, gr_0_1, gr_0_2, gr_0_3, gr_0_4, gr_0_5, gi_tp, pi_tp, gi_tf, pi_tf, gi_xf, pi_xf, is_1, gr_1_0, gr_1_1, gi_en, pi_en, is_4, gr_4_0, gr_4_1, gr_4_2, gr_4_3, gi_gn, pi_gn, is_9, gr_9_0, gr_9_1, gi_ts, pi_ts, gi_tw, pi_tw, gi_tc, pi_tc, is_40, gr_40_0, is_42, gr_42_0, gr_42_1, gi_dn, pi_dn, is_45, gr_45_0, gr_45_1, gi_xw, pi_xw, gi_xn, pi_xn, gi_xt, pi_xt, is_59, gi_mco, pi_mco, gi_mev, pi_mev, gr_59_2, gr_59_3, gi_mgt, pi_mgt, gr_59_5, gr_59_6, gr_59_7, gr_59_8, gi_mtp, pi_mtp, gr_59_10, gr_59_11, gr_59_12, gr_59_13, gr_59_14, gr_59_15, gi_mmy, pi_mmy, gr_59_17, gr_59_18, show b32 false = (0 : Int32) from rfl, if_true, h1, nl_mul, h2, rd_mca (show c / 64 < 923 by omega), wr_mca (show c / 64 < 923 by omega), nl_add]
  | true =>
    refine ⟨S.2.2 71 (c / 64) ||| ((1 : Int64) <<< ((n32 (c % 64)).toInt64 &&& 63)), fun j hj => ?_, ?_⟩
    · rw [lb_or, lb_sh1 (by omega) hj]
      by_cases h : j = c % 64
      · rw [if_pos h, decide_eq_true h]; simp
      · rw [if_neg h, decide_eq_false h]; simp
    · simp only [f_M_findPrimes_79, f_M_findPrimes_133, Option.bind_some, is_0, gr_0_0, gr_0_1, gr_0_2, gr_0_3, gr_0_4, gr_0_5, gi_tp, pi_tp, gi_tf, pi_tf, gi_xf, pi_xf, is_1, gr_1_0, gr_1_1, gi_en, pi_en, is_4, gr_4_0, gr_4_1, gr_4_2, gr_4_3, gi_gn, pi_gn, is_9, gr_9_0, gr_9_1, gi_ts, pi_ts, gi_tw, pi_tw, gi_tc, pi_tc, is_40, gr_40_0, is_42, gr_42_0, gr_42_1, gi_dn, pi_dn, is_45, gr_45_0, gr_45_1, gi_xw, pi_xw, gi_xn, pi_xn, gi_xt, pi_xt, is_59, gi_mco, pi_mco, gi_mev, pi_mev, gr_59_2, gr_59_3, gi_mgt, pi_mgt, gr_59_5, gr_59_6, gr_59_7, gr_59_8, gi_mtp, pi_mtp, gr_59_10, gr_59_11, gr_59_12, gr_59_13, gr_59_14, gr_59_15, gi_mmy, pi_mmy, gr_59_17, gr_59_18, show b32 true = (1 : Int32) from rfl, if_neg (show ¬ (1 : Int32) = 0 by decide), h1, nl_mul, h2, rd_mca (show c / 64 < 923 by omega), wr_mca (show c / 64 < 923 by omega), nl_add]
/-- a code with a free event -/
theorem fr_code {c e : Nat} (he : e < n) (hd : tdg c e = 2) : 2 * 3 ^ e ≤ c ∧ (cauC f n c ↔ (cauC f n (c - 3 ^ e) ∧ cauC f n (c - 2 * 3 ^ e))) := by
  have hP : 0 < 3 ^ e := Nat.pos_of_ne_zero (by simp)
  have hdm := Nat.div_add_mod c (3 ^ e)
  rw [Nat.mul_comm] at hdm
  have hx : c / 3 ^ e % 3 = 2 := hd
  have hx2 : 2 ≤ c / 3 ^ e := by
    have := Nat.mod_le (c / 3 ^ e) 3
    rw [hx] at this; exact this
  have x3 : ∀ x : Nat, x % 3 = 2 → (x - 1) / 3 = x / 3 ∧ (x - 1) % 3 = 1 ∧ (x - 2) / 3 = x / 3 ∧ (x - 2) % 3 = 0 := fun x h => by omega
  obtain ⟨y1, y2, y3, y4⟩ := x3 _ hx
  have c1 : c - 3 ^ e = (c / 3 ^ e - 1) * 3 ^ e + c % 3 ^ e := by
    obtain ⟨x, hxx⟩ : ∃ x, c / 3 ^ e = x + 1 := ⟨c / 3 ^ e - 1, by omega⟩
    rw [hxx, Nat.add_mul, Nat.one_mul] at hdm
    rw [hxx, Nat.add_sub_cancel]
    generalize x * 3 ^ e = u at *
    generalize c % 3 ^ e = v at *
    omega
  have c0 : c - 2 * 3 ^ e = (c / 3 ^ e - 2) * 3 ^ e + c % 3 ^ e := by
    obtain ⟨x, hxx⟩ : ∃ x, c / 3 ^ e = x + 2 := ⟨c / 3 ^ e - 2, by omega⟩
    rw [hxx, Nat.add_mul] at hdm
    rw [hxx, Nat.add_sub_cancel]
    generalize x * 3 ^ e = u at *
    generalize c % 3 ^ e = v at *
    omega
  have hge : 2 * 3 ^ e ≤ c := Nat.le_trans (Nat.mul_le_mul_right (3 ^ e) hx2) (Nat.div_mul_le_self c (3 ^ e))
  have d1 := tdg_ch (c := c) (x' := c / 3 ^ e - 1) (e := e) y1
  have d0 := tdg_ch (c := c) (x' := c / 3 ^ e - 2) (e := e) y3
  rw [← c1, y2] at d1
  rw [← c0, y4] at d0
  exact ⟨hge, cauC_free he hd d1.2 d0.2 d1.1 d0.1⟩
theorem M_35 {c P : Nat} {v1 x : Int32} (hc : c < 59049) (hx : x < 0) (hge : 2 * P ≤ c) (k10 : Nat → Int32 → Int32 → List va_E → Option (Int32 × List va_E)) : f_M_findPrimes_35 fu k10 59 v1 (n32 c) x (n32 P) (enc S) = f_M_findPrimes_79 fu k10 59 v1 (n32 c) (b32 (cb S (c - P) && cb S (c - 2 * P))) (enc S) := by
  have i1 := M_isCause (fu := fu) (S := S) (c := c - P) (by omega)
  have i0 := M_isCause (fu := fu) (S := S) (c := c - 2 * P) (by omega)
  have s1 : n32 c - n32 P = n32 (c - P) := n32_sub (by omega)
  have s2 : n32 c - (2 : Int32) * n32 P = n32 (c - 2 * P) := by rw [ln_mul]; exact n32_sub hge
  unfold f_M_findPrimes_35
  rw [if_pos hx, is_59, Option.bind_some, s1, i1, Option.bind_some]
  cases cb S (c - P) with
  | false => rfl
  | true =>
    rw [if_neg (show ¬ b32 true = 0 by decide), is_59, Option.bind_some, s2, i0, Option.bind_some]
    cases cb S (c - 2 * P) with
    | false => rfl
    | true => rfl
theorem M_10a {c P N : Nat} {x : Int32} (hN : c < N) (hNb : N ≤ 59049) (hx : x < 0) (hpw : f_M_power fu ((-1 : Int32) - x) (enc S) = some (n32 P, enc S)) (hge : 2 * P ≤ c) (es : f_M_settingOf fu 59 (n32 c) (enc S) = some (x, enc S)) (m : Nat) : f_M_findPrimes_10 fu (m + 1) 59 (n32 N) (n32 c) (enc S) = f_M_findPrimes_79 fu (f_M_findPrimes_10 fu m) 59 (n32 N) (n32 c) (b32 (cb S (c - P) && cb S (c - 2 * P))) (enc S) := by
  have hle : ¬ n32 N ≤ n32 c := by rw [n32_le (by omega) (by omega)]; omega
  have h35 := M_35 (fu := fu) (S := S) (c := c) (P := P) (v1 := n32 N) (x := x) (by omega) hx hge (f_M_findPrimes_10 fu m)
  rw [f_M_findPrimes_10, if_neg hle, is_59, Option.bind_some, es, Option.bind_some, if_pos hx, hpw, Option.bind_some]
  exact h35
theorem M_10b {c s N : Nat} {b : Bool} (hN : c < N) (hNb : N ≤ 59049) (hs : s < 1024) (hft : S.2.1 70 s = b32 b) (es : f_M_settingOf fu 59 (n32 c) (enc S) = some (n32 s, enc S)) (m : Nat) : f_M_findPrimes_10 fu (m + 1) 59 (n32 N) (n32 c) (enc S) = f_M_findPrimes_79 fu (f_M_findPrimes_10 fu m) 59 (n32 N) (n32 c) (b32 b) (enc S) := by
  have hle : ¬ n32 N ≤ n32 c := by rw [n32_le (by omega) (by omega)]; omega
  have hnn : ¬ n32 s < 0 := n32_nn (by omega)
  simp only [f_M_findPrimes_10, f_M_findPrimes_35, Option.bind_some, is_0, gr_0_0, gr_0_1, gr_0_2, gr_0_3, gr_0_4, gr_0_5, gi_tp, pi_tp, gi_tf, pi_tf, gi_xf, pi_xf, is_1, gr_1_0, gr_1_1, gi_en, pi_en, is_4, gr_4_0, gr_4_1, gr_4_2, gr_4_3, gi_gn, pi_gn, is_9, gr_9_0, gr_9_1, gi_ts, pi_ts, gi_tw, pi_tw, gi_tc, pi_tc, is_40, gr_40_0, is_42, gr_42_0, gr_42_1, gi_dn, pi_dn, is_45, gr_45_0, gr_45_1, gi_xw, pi_xw, gi_xn, pi_xn, gi_xt, pi_xt, is_59, gi_mco, pi_mco, gi_mev, pi_mev, gr_59_2, gr_59_3, gi_mgt, pi_mgt, gr_59_5, gr_59_6, gr_59_7, gr_59_8, gi_mtp, pi_mtp, gr_59_10, gr_59_11, gr_59_12, gr_59_13, gr_59_14, gr_59_15, gi_mmy, pi_mmy, gr_59_17, gr_59_18, if_neg hle, es, if_neg hnn, rd_mtr hs, hft]
theorem M_10c {c N : Nat} {b : Bool} (P : Nat → Prop) (hc : c < 59049) (hb : b = true ↔ P c) (h2 : ∀ c', c' < c → (cb S c' = true ↔ P c')) (k10 : Nat → Int32 → Int32 → List va_E → Option (Int32 × List va_E)) : ∃ T', FrL 71 S T' ∧ (∀ c', c' < c + 1 → (cb T' c' = true ↔ P c')) ∧ f_M_findPrimes_79 fu k10 59 (n32 N) (n32 c) (b32 b) (enc S) = k10 59 (n32 N) (n32 (c + 1)) (enc T') := by
  obtain ⟨y, hy, ey⟩ := M_79 (fu := fu) (S := S) (c := c) (v1 := n32 N) hc b k10
  refine ⟨sL S 71 (c / 64) y, ⟨rfl, rfl, fun q hq => by rw [sL3, if_neg hq]⟩, fun c' hc' => ?_, ey⟩
  have hcb : cb (sL S 71 (c / 64) y) c' = if c' = c then b else cb S c' := by
    unfold cb
    rw [sL3, if_pos rfl, updL_at]
    by_cases hq : c' / 64 = c / 64
    · rw [if_pos hq, hy _ (by omega)]
      by_cases hr : c' % 64 = c % 64
      · rw [if_pos hr, if_pos (show c' = c by omega)]
      · rw [if_neg hr, if_neg (show ¬ c' = c by omega), hq]
    · rw [if_neg hq, if_neg (fun q => hq (by rw [q]))]
  rw [hcb]
  by_cases hcc : c' = c
  · rw [if_pos hcc, hcc]; exact hb
  · rw [if_neg hcc]; exact h2 c' (by omega)
theorem M_10d {N : Nat} (hN : N = 3 ^ n) (hNb : N ≤ 59049) (hn : n ≤ 10) (hE : S.1 59 1 = n32 n) (hf : ∀ s, s < 2 ^ n → S.2.1 70 s = b32 (f s)) (hfu : 2000 ≤ fu) {c : Nat} (hc : c < N) (h2 : ∀ c', c' < c → (cb S c' = true ↔ cauC f n c')) (m : Nat) : ∃ T', FrL 71 S T' ∧ (∀ c', c' < c + 1 → (cb T' c' = true ↔ cauC f n c')) ∧ f_M_findPrimes_10 fu (m + 1) 59 (n32 N) (n32 c) (enc S) = f_M_findPrimes_10 fu m 59 (n32 N) (n32 (c + 1)) (enc T') := by
  rcases M_set (fu := fu) (S := S) (c := c) hn (by omega) hE hfu with ⟨e, he, hd, es⟩ | ⟨hall, es⟩
  · obtain ⟨hge, hfree⟩ := fr_code (f := f) he hd
    have hP : 0 < 3 ^ e := Nat.pos_of_ne_zero (by simp)
    obtain ⟨T', t1, t2, t3⟩ := M_10c (fu := fu) (S := S) (c := c) (N := N) (b := cb S (c - 3 ^ e) && cb S (c - 2 * 3 ^ e)) (cauC f n) (by omega) (by rw [Bool.and_eq_true, h2 _ (by omega), h2 _ (by omega)]; exact hfree.symm) h2 (f_M_findPrimes_10 fu m)
    obtain ⟨n1, n2⟩ := neg_1 e (by omega)
    exact ⟨T', t1, t2, (M_10a hc hNb n1 (by rw [n2]; exact M_power (by omega) hfu) hge es m).trans t3⟩
  · have hON : ON n c < 2 ^ n := tbn_lt n c
    have hp2 := p10 hn
    obtain ⟨T', t1, t2, t3⟩ := M_10c (fu := fu) (S := S) (c := c) (N := N) (b := f (ON n c)) (cauC f n) (by omega) ⟨fun h s hs ha => by
      have : s = ON n c := tbn_uq hs (fun e he => ha e he (hall e he))
      rw [this]; exact h, fun h => h (ON n c) hON (fun e he _ => by rw [ON_tb, decide_eq_true he]; rfl)⟩ h2 (f_M_findPrimes_10 fu m)
    exact ⟨T', t1, t2, (M_10b hc hNb (by omega) (hf _ hON) es m).trans t3⟩
theorem M_tab {N : Nat} (hN : N = 3 ^ n) (hNb : N ≤ 59049) (hn : n ≤ 10) (hE : S.1 59 1 = n32 n) (hf : ∀ s, s < 2 ^ n → S.2.1 70 s = b32 (f s)) (hfu : 60000 ≤ fu) : ∃ T, FrL 71 S T ∧ (∀ c, c < N → (cb T c = true ↔ cauC f n c)) ∧ f_M_findPrimes_10 fu fu 59 (n32 N) 0 (enc S) = f_M_findPrimes_147 fu fu 59 (n32 N) 0 (enc (sS T 59 16 0)) := by
  obtain ⟨T, ⟨t1, t2⟩, m, e1⟩ := lp0 (F := fun m c T => f_M_findPrimes_10 fu m 59 (n32 N) (n32 c) (enc T)) (I := fun c T => FrL 71 S T ∧ ∀ c', c' < c → (cb T c' = true ↔ cauC f n c')) (N := N) (n := fu) (s := S) (by omega) ⟨⟨rfl, rfl, fun _ _ => rfl⟩, fun c h => absurd h (Nat.not_lt_zero _)⟩ (fun m c T hc hI => by
    obtain ⟨⟨f1, f2, f3⟩, h2⟩ := hI
    obtain ⟨T', ⟨g1, g2, g3⟩, g4, g5⟩ := M_10d (fu := fu) (S := T) (f := f) (n := n) hN hNb hn (by rw [f1]; exact hE) (fun s hs => by rw [f2]; exact hf s hs) (by omega) hc h2 m
    exact ⟨T', ⟨⟨g1.trans f1, g2.trans f2, fun q hq => (g3 q hq).trans (f3 q hq)⟩, g4⟩, g5⟩)
  refine ⟨T, t1, t2, Eq.trans e1 ?_⟩
  simp only [f_M_findPrimes_10, Option.bind_some, is_0, gr_0_0, gr_0_1, gr_0_2, gr_0_3, gr_0_4, gr_0_5, gi_tp, pi_tp, gi_tf, pi_tf, gi_xf, pi_xf, is_1, gr_1_0, gr_1_1, gi_en, pi_en, is_4, gr_4_0, gr_4_1, gr_4_2, gr_4_3, gi_gn, pi_gn, is_9, gr_9_0, gr_9_1, gi_ts, pi_ts, gi_tw, pi_tw, gi_tc, pi_tc, is_40, gr_40_0, is_42, gr_42_0, gr_42_1, gi_dn, pi_dn, is_45, gr_45_0, gr_45_1, gi_xw, pi_xw, gi_xn, pi_xn, gi_xt, pi_xt, is_59, gi_mco, pi_mco, gi_mev, pi_mev, gr_59_2, gr_59_3, gi_mgt, pi_mgt, gr_59_5, gr_59_6, gr_59_7, gr_59_8, gi_mtp, pi_mtp, gr_59_10, gr_59_11, gr_59_12, gr_59_13, gr_59_14, gr_59_15, gi_mmy, pi_mmy, gr_59_17, gr_59_18, if_pos (show n32 N ≤ n32 N from (n32_le (by omega) (by omega)).mpr (Nat.le_refl _))]
/-- the model's isPrime -/
theorem M_isPrime {c : Nat} (hn : n ≤ 10) (hc : c < 3 ^ n) (hE : S.1 59 1 = n32 n) (hT : ∀ c, c < 3 ^ n → (cb S c = true ↔ cauC f n c)) (hfu : 2000 ≤ fu) : ∃ b : Bool, (b = true ↔ isPr f n (KP n c) (ON n c)) ∧ f_M_isPrime fu 59 (n32 c) (enc S) = some (b32 b, enc S) := by
  have hp3 := p3 hn
  obtain ⟨b, hb, m, e1⟩ := lp0 (F := fun m e b => f_M_isPrime_14 fu m 59 (n32 c) (b32 b) (n32 (c / 3 ^ e)) (n32 (3 ^ e)) (n32 e) (enc S)) (I := fun e b => b = true ↔ (cauC f n c ∧ ∀ e', e' < e → tdg c e' ≠ 2 → ¬ cauC f n (frC c e'))) (N := n) (n := fu) (s := cb S c) (by omega) ((hT c hc).trans ⟨fun h => ⟨h, fun e' h => absurd h (by omega)⟩, fun h => h.1⟩) (fun m e b he hI => by
    have hle : ¬ n32 n ≤ n32 e := by rw [n32_le (by omega) (by omega)]; omega
    have hcd : c / 3 ^ e ≤ c := Nat.div_le_self _ _
    obtain ⟨d1, d2⟩ := n32_3 (c := c / 3 ^ e) (by omega)
    have hdd : c / 3 ^ e % 3 = tdg c e := rfl
    have e2 : c / 3 ^ e / 3 = c / 3 ^ (e + 1) := by rw [Nat.div_div_eq_div_mul, Nat.pow_succ]
    rw [hdd, e2] at d2
    rw [e2] at d1
    have h3 := tdg_lt c e
    have e3 : 3 * 3 ^ e = 3 ^ (e + 1) := by rw [Nat.pow_succ, Nat.mul_comm]
    cases hbb : b with
    | false =>
      subst hbb
      refine ⟨false, ⟨fun h => (by cases h), fun h => hI.mpr ⟨h.1, fun e' he' => h.2 e' (by omega)⟩⟩, ?_⟩
      simp only [f_M_isPrime_14, f_M_isPrime_58, f_M_isPrime_59, Option.bind_some, is_0, gr_0_0, gr_0_1, gr_0_2, gr_0_3, gr_0_4, gr_0_5, gi_tp, pi_tp, gi_tf, pi_tf, gi_xf, pi_xf, is_1, gr_1_0, gr_1_1, gi_en, pi_en, is_4, gr_4_0, gr_4_1, gr_4_2, gr_4_3, gi_gn, pi_gn, is_9, gr_9_0, gr_9_1, gi_ts, pi_ts, gi_tw, pi_tw, gi_tc, pi_tc, is_40, gr_40_0, is_42, gr_42_0, gr_42_1, gi_dn, pi_dn, is_45, gr_45_0, gr_45_1, gi_xw, pi_xw, gi_xn, pi_xn, gi_xt, pi_xt, is_59, gi_mco, pi_mco, gi_mev, pi_mev, gr_59_2, gr_59_3, gi_mgt, pi_mgt, gr_59_5, gr_59_6, gr_59_7, gr_59_8, gi_mtp, pi_mtp, gr_59_10, gr_59_11, gr_59_12, gr_59_13, gr_59_14, gr_59_15, gi_mmy, pi_mmy, gr_59_17, gr_59_18, hE, if_neg hle, b32_0, if_true, d1, ln_mul, e3, nl_add]; rfl
    | true =>
      subst hbb
      by_cases h2 : tdg c e = 2
      · refine ⟨true, ⟨fun _ => ⟨(hI.mp rfl).1, fun e' he' hd => ?_⟩, fun _ => rfl⟩, ?_⟩
        · by_cases hee : e' = e
          · rw [hee] at hd; exact absurd h2 hd
          · exact (hI.mp rfl).2 e' (by omega) hd
        · simp only [f_M_isPrime_14, f_M_isPrime_54, f_M_isPrime_59, Option.bind_some, is_0, gr_0_0, gr_0_1, gr_0_2, gr_0_3, gr_0_4, gr_0_5, gi_tp, pi_tp, gi_tf, pi_tf, gi_xf, pi_xf, is_1, gr_1_0, gr_1_1, gi_en, pi_en, is_4, gr_4_0, gr_4_1, gr_4_2, gr_4_3, gi_gn, pi_gn, is_9, gr_9_0, gr_9_1, gi_ts, pi_ts, gi_tw, pi_tw, gi_tc, pi_tc, is_40, gr_40_0, is_42, gr_42_0, gr_42_1, gi_dn, pi_dn, is_45, gr_45_0, gr_45_1, gi_xw, pi_xw, gi_xn, pi_xn, gi_xt, pi_xt, is_59, gi_mco, pi_mco, gi_mev, pi_mev, gr_59_2, gr_59_3, gi_mgt, pi_mgt, gr_59_5, gr_59_6, gr_59_7, gr_59_8, gi_mtp, pi_mtp, gr_59_10, gr_59_11, gr_59_12, gr_59_13, gr_59_14, gr_59_15, gi_mmy, pi_mmy, gr_59_17, gr_59_18, hE, if_neg hle, b32_0, Bool.true_eq_false, if_false, d1, nl_mul, d2, h2, show n32 2 = (2 : Int32) from rfl, if_true, ln_mul, e3, nl_add]; rfl
      · have hne : ¬ n32 (tdg c e) = (2 : Int32) := fun q => h2 ((nl_eq (by omega) (by omega)).mp q)
        have hfl := frC_lt hc he
        have i1 := M_isCause (fu := fu) (S := S) (c := frC c e) (by omega)
        have hfr : c + (2 - tdg c e) * 3 ^ e = frC c e := rfl
        have h2e : (2 : Int32) - n32 (tdg c e) = n32 (2 - tdg c e) := ln_sub (k := 2) (by show tdg c e ≤ 2; omega)
        cases hq : cb S (frC c e) with
        | false =>
          refine ⟨true, ⟨fun _ => ⟨(hI.mp rfl).1, fun e' he' hd => ?_⟩, fun _ => rfl⟩, ?_⟩
          · by_cases hee : e' = e
            · rw [hee]; intro hcc; rw [(hT _ hfl).mpr hcc] at hq; cases hq
            · exact (hI.mp rfl).2 e' (by omega) hd
          · simp only [f_M_isPrime_14, f_M_isPrime_54, f_M_isPrime_59, Option.bind_some, is_0, gr_0_0, gr_0_1, gr_0_2, gr_0_3, gr_0_4, gr_0_5, gi_tp, pi_tp, gi_tf, pi_tf, gi_xf, pi_xf, is_1, gr_1_0, gr_1_1, gi_en, pi_en, is_4, gr_4_0, gr_4_1, gr_4_2, gr_4_3, gi_gn, pi_gn, is_9, gr_9_0, gr_9_1, gi_ts, pi_ts, gi_tw, pi_tw, gi_tc, pi_tc, is_40, gr_40_0, is_42, gr_42_0, gr_42_1, gi_dn, pi_dn, is_45, gr_45_0, gr_45_1, gi_xw, pi_xw, gi_xn, pi_xn, gi_xt, pi_xt, is_59, gi_mco, pi_mco, gi_mev, pi_mev, gr_59_2, gr_59_3, gi_mgt, pi_mgt, gr_59_5, gr_59_6, gr_59_7, gr_59_8, gi_mtp, pi_mtp, gr_59_10, gr_59_11, gr_59_12, gr_59_13, gr_59_14, gr_59_15, gi_mmy, pi_mmy, gr_59_17, gr_59_18, hE, if_neg hle, b32_0, Bool.true_eq_false, if_false, d1, nl_mul, d2, if_neg hne, h2e, n32_mul, n32_add, hfr, i1, hq, if_true, ln_mul, e3, nl_add]; rfl
        | true =>
          refine ⟨false, ⟨fun h => (by cases h), fun h => absurd ((hT _ hfl).mp hq) (h.2 e (by omega) h2)⟩, ?_⟩
          simp only [f_M_isPrime_14, f_M_isPrime_58, f_M_isPrime_59, Option.bind_some, is_0, gr_0_0, gr_0_1, gr_0_2, gr_0_3, gr_0_4, gr_0_5, gi_tp, pi_tp, gi_tf, pi_tf, gi_xf, pi_xf, is_1, gr_1_0, gr_1_1, gi_en, pi_en, is_4, gr_4_0, gr_4_1, gr_4_2, gr_4_3, gi_gn, pi_gn, is_9, gr_9_0, gr_9_1, gi_ts, pi_ts, gi_tw, pi_tw, gi_tc, pi_tc, is_40, gr_40_0, is_42, gr_42_0, gr_42_1, gi_dn, pi_dn, is_45, gr_45_0, gr_45_1, gi_xw, pi_xw, gi_xn, pi_xn, gi_xt, pi_xt, is_59, gi_mco, pi_mco, gi_mev, pi_mev, gr_59_2, gr_59_3, gi_mgt, pi_mgt, gr_59_5, gr_59_6, gr_59_7, gr_59_8, gi_mtp, pi_mtp, gr_59_10, gr_59_11, gr_59_12, gr_59_13, gr_59_14, gr_59_15, gi_mmy, pi_mmy, gr_59_17, gr_59_18, hE, if_neg hle, b32_0, Bool.true_eq_false, if_false, d1, nl_mul, d2, if_neg hne, h2e, n32_mul, n32_add, hfr, i1, hq, ln_mul, e3, nl_add]; rfl)
  refine ⟨b, hb.trans isPrC.symm, ?_⟩
  have i0 := M_isCause (fu := fu) (S := S) (c := c) (by omega)
  have e1' : f_M_isPrime_14 fu fu 59 (n32 c) (b32 (cb S c)) (n32 c) 1 0 (enc S) = f_M_isPrime_14 fu (m + 1) 59 (n32 c) (b32 b) (n32 (c / 3 ^ n)) (n32 (3 ^ n)) (n32 n) (enc S) := by
    have : f_M_isPrime_14 fu fu 59 (n32 c) (b32 (cb S c)) (n32 (c / 3 ^ 0)) (n32 (3 ^ 0)) (n32 0) (enc S) = _ := e1
    rw [Nat.pow_zero, Nat.div_one] at this
    exact this
  simp only [f_M_isPrime, Option.bind_some, is_0, gr_0_0, gr_0_1, gr_0_2, gr_0_3, gr_0_4, gr_0_5, gi_tp, pi_tp, gi_tf, pi_tf, gi_xf, pi_xf, is_1, gr_1_0, gr_1_1, gi_en, pi_en, is_4, gr_4_0, gr_4_1, gr_4_2, gr_4_3, gi_gn, pi_gn, is_9, gr_9_0, gr_9_1, gi_ts, pi_ts, gi_tw, pi_tw, gi_tc, pi_tc, is_40, gr_40_0, is_42, gr_42_0, gr_42_1, gi_dn, pi_dn, is_45, gr_45_0, gr_45_1, gi_xw, pi_xw, gi_xn, pi_xn, gi_xt, pi_xt, is_59, gi_mco, pi_mco, gi_mev, pi_mev, gr_59_2, gr_59_3, gi_mgt, pi_mgt, gr_59_5, gr_59_6, gr_59_7, gr_59_8, gi_mtp, pi_mtp, gr_59_10, gr_59_11, gr_59_12, gr_59_13, gr_59_14, gr_59_15, gi_mmy, pi_mmy, gr_59_17, gr_59_18, i0]
  refine Eq.trans e1' ?_
  simp only [f_M_isPrime_14, Option.bind_some, is_0, gr_0_0, gr_0_1, gr_0_2, gr_0_3, gr_0_4, gr_0_5, gi_tp, pi_tp, gi_tf, pi_tf, gi_xf, pi_xf, is_1, gr_1_0, gr_1_1, gi_en, pi_en, is_4, gr_4_0, gr_4_1, gr_4_2, gr_4_3, gi_gn, pi_gn, is_9, gr_9_0, gr_9_1, gi_ts, pi_ts, gi_tw, pi_tw, gi_tc, pi_tc, is_40, gr_40_0, is_42, gr_42_0, gr_42_1, gi_dn, pi_dn, is_45, gr_45_0, gr_45_1, gi_xw, pi_xw, gi_xn, pi_xn, gi_xt, pi_xt, is_59, gi_mco, pi_mco, gi_mev, pi_mev, gr_59_2, gr_59_3, gi_mgt, pi_mgt, gr_59_5, gr_59_6, gr_59_7, gr_59_8, gi_mtp, pi_mtp, gr_59_10, gr_59_11, gr_59_12, gr_59_13, gr_59_14, gr_59_15, gi_mmy, pi_mmy, gr_59_17, gr_59_18, hE, if_pos (show n32 n ≤ n32 n from (n32_le (by omega) (by omega)).mpr (Nat.le_refl _)), if_pos (b32_ok b)]
end
