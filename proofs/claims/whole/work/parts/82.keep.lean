/-! the model keeps the prime terms in order -/
section
variable {fu : Nat} {S : Ws} {f : Nat → Bool} {n : Nat}
theorem M_eo {c d : Nat} (hn : n ≤ 10) (hc : c < 59049) (hd : d < 3) (hE : S.1 59 1 = n32 n) (hfu : 2000 ≤ fu) : f_M_eventsOf fu 59 (n32 c) (n32 d) (enc S) = some (n32 (tbn (fun x => decide (x = d)) n c), enc S) := by
  obtain ⟨a, ⟨ha, hb⟩, m, e1⟩ := lp0 (F := fun m e a => f_M_eventsOf_8 fu m 59 (n32 d) (n32 a) (n32 (c / 3 ^ e)) (n32 e) (enc S)) (I := fun e a => a < 2 ^ e ∧ ∀ j, j < e → a.testBit j = decide (tdg c j = d)) (N := n) (n := fu) (s := 0) (by omega) ⟨by simp, fun j h => absurd h (by omega)⟩ (fun m e a he hI => by
    obtain ⟨ha, hb⟩ := hI
    have hle : ¬ n32 n ≤ n32 e := by rw [n32_le (by omega) (by omega)]; omega
    have hcd : c / 3 ^ e ≤ c := Nat.div_le_self _ _
    obtain ⟨d1, d2⟩ := n32_3 (c := c / 3 ^ e) (by omega)
    have hdd : c / 3 ^ e % 3 = tdg c e := rfl
    have e2 : c / 3 ^ e / 3 = c / 3 ^ (e + 1) := by rw [Nat.div_div_eq_div_mul, Nat.pow_succ]
    rw [hdd, e2] at d2
    rw [e2] at d1
    have h3 := tdg_lt c e
    by_cases hq : tdg c e = d
    · have hor : a ||| 2 ^ e = 1 * 2 ^ e + a := by
        have := Nat.two_pow_add_eq_or_of_lt (i := e) (b := a) ha 1
        rw [Nat.mul_one] at this
        rw [Nat.or_comm, ← this, Nat.one_mul]
      refine ⟨1 * 2 ^ e + a, ⟨by rw [Nat.pow_succ]; omega, fun j hj => ?_⟩, ?_⟩
      · rw [tb_m ha]
        by_cases hje : j < e
        · rw [if_pos hje]; exact hb j hje
        · obtain rfl : j = e := by omega
          rw [if_neg hje, Nat.sub_self, decide_eq_true hq]; rfl
      · simp only [f_M_eventsOf_8, f_M_eventsOf_34, Option.bind_some, is_0, gr_0_0, gr_0_1, gr_0_2, gr_0_3, gr_0_4, gr_0_5, gi_tp, pi_tp, gi_tf, pi_tf, gi_xf, pi_xf, is_1, gr_1_0, gr_1_1, gi_en, pi_en, is_4, gr_4_0, gr_4_1, gr_4_2, gr_4_3, gi_gn, pi_gn, is_9, gr_9_0, gr_9_1, gi_ts, pi_ts, gi_tw, pi_tw, gi_tc, pi_tc, is_40, gr_40_0, is_42, gr_42_0, gr_42_1, gi_dn, pi_dn, is_45, gr_45_0, gr_45_1, gi_xw, pi_xw, gi_xn, pi_xn, gi_xt, pi_xt, is_59, gi_mco, pi_mco, gi_mev, pi_mev, gr_59_2, gr_59_3, gi_mgt, pi_mgt, gr_59_5, gr_59_6, gr_59_7, gr_59_8, gi_mtp, pi_mtp, gr_59_10, gr_59_11, gr_59_12, gr_59_13, gr_59_14, gr_59_15, gi_mmy, pi_mmy, gr_59_17, gr_59_18, hE, if_neg hle, d1, nl_mul, d2, if_pos (show n32 (tdg c e) = n32 d by rw [hq]), n32_shl (show e < 31 by omega), n32_or, hor, nl_add]
    · refine ⟨a, ⟨by rw [Nat.pow_succ]; omega, fun j hj => ?_⟩, ?_⟩
      · by_cases hje : j < e
        · exact hb j hje
        · obtain rfl : j = e := by omega
          rw [decide_eq_false hq, Nat.testBit_lt_two_pow ha]
      · have h0 : n32 a ||| (0 : Int32) = n32 a := by rw [show (0 : Int32) = n32 0 from rfl, n32_or, Nat.or_zero]
        simp only [f_M_eventsOf_8, f_M_eventsOf_34, Option.bind_some, is_0, gr_0_0, gr_0_1, gr_0_2, gr_0_3, gr_0_4, gr_0_5, gi_tp, pi_tp, gi_tf, pi_tf, gi_xf, pi_xf, is_1, gr_1_0, gr_1_1, gi_en, pi_en, is_4, gr_4_0, gr_4_1, gr_4_2, gr_4_3, gi_gn, pi_gn, is_9, gr_9_0, gr_9_1, gi_ts, pi_ts, gi_tw, pi_tw, gi_tc, pi_tc, is_40, gr_40_0, is_42, gr_42_0, gr_42_1, gi_dn, pi_dn, is_45, gr_45_0, gr_45_1, gi_xw, pi_xw, gi_xn, pi_xn, gi_xt, pi_xt, is_59, gi_mco, pi_mco, gi_mev, pi_mev, gr_59_2, gr_59_3, gi_mgt, pi_mgt, gr_59_5, gr_59_6, gr_59_7, gr_59_8, gi_mtp, pi_mtp, gr_59_10, gr_59_11, gr_59_12, gr_59_13, gr_59_14, gr_59_15, gi_mmy, pi_mmy, gr_59_17, gr_59_18, hE, if_neg hle, d1, nl_mul, d2, if_neg (show ¬ n32 (tdg c e) = n32 d from fun q => hq ((n32_inj (by omega) (by omega)).mp q)), h0, nl_add])
  have hae : a = tbn (fun x => decide (x = d)) n c := tbn_uq ha hb
  subst hae
  have e1' : f_M_eventsOf_8 fu fu 59 (n32 d) 0 (n32 c) 0 (enc S) = f_M_eventsOf_8 fu (m + 1) 59 (n32 d) (n32 (tbn (fun x => decide (x = d)) n c)) (n32 (c / 3 ^ n)) (n32 n) (enc S) := by
    have : f_M_eventsOf_8 fu fu 59 (n32 d) (n32 0) (n32 (c / 3 ^ 0)) (n32 0) (enc S) = _ := e1
    rw [Nat.pow_zero, Nat.div_one] at this
    exact this
  simp only [f_M_eventsOf]
  refine Eq.trans e1' ?_
  simp only [f_M_eventsOf_8, Option.bind_some, is_0, gr_0_0, gr_0_1, gr_0_2, gr_0_3, gr_0_4, gr_0_5, gi_tp, pi_tp, gi_tf, pi_tf, gi_xf, pi_xf, is_1, gr_1_0, gr_1_1, gi_en, pi_en, is_4, gr_4_0, gr_4_1, gr_4_2, gr_4_3, gi_gn, pi_gn, is_9, gr_9_0, gr_9_1, gi_ts, pi_ts, gi_tw, pi_tw, gi_tc, pi_tc, is_40, gr_40_0, is_42, gr_42_0, gr_42_1, gi_dn, pi_dn, is_45, gr_45_0, gr_45_1, gi_xw, pi_xw, gi_xn, pi_xn, gi_xt, pi_xt, is_59, gi_mco, pi_mco, gi_mev, pi_mev, gr_59_2, gr_59_3, gi_mgt, pi_mgt, gr_59_5, gr_59_6, gr_59_7, gr_59_8, gi_mtp, pi_mtp, gr_59_10, gr_59_11, gr_59_12, gr_59_13, gr_59_14, gr_59_15, gi_mmy, pi_mmy, gr_59_17, gr_59_18, hE, if_pos (show n32 n ≤ n32 n from (n32_le (by omega) (by omega)).mpr (Nat.le_refl _))]
theorem bit1 {a e : Nat} (he : e < 32) : ((n32 a >>> (n32 e &&& 31)) &&& (1 : Int32)) = n32 (if a.testBit e = true then 1 else 0) := by
  have hb : bt (n32 a) e = a.testBit e := by rw [bt_n, decide_eq_true he]; rfl
  cases h : a.testBit e with
  | false => rw [(ts_0 he).mpr (hb.trans h)]; rfl
  | true => rw [(ts_1 he).mpr (hb.trans h)]; rfl
theorem M_size {a : Nat} {w : List va_E} (hfu : 2000 ≤ fu) : f_M_size fu (n32 a) w = some (n32 (pc a), w) := by
  obtain ⟨y, hy, m, e1⟩ := lp0 (F := fun m e y => f_M_size_4 fu m (n32 a) (n32 y) (n32 e) w) (I := fun e y => y = (List.range e).countP (fun e => a.testBit e)) (N := 10) (n := fu) (s := 0) (by omega) rfl (fun m e y he hI => by
    obtain rfl := hI
    have hle : ¬ (10 : Int32) ≤ n32 e := by rw [ln_le (by omega) (by omega)]; omega
    refine ⟨_, rfl, ?_⟩
    simp only [f_M_size_4, if_neg hle, bit1 (show e < 32 by omega), n32_add, nl_add]
    rw [List.range_succ, List.countP_append]
    cases h : a.testBit e <;> simp [h])
  obtain rfl := hy
  refine Eq.trans e1 ?_
  simp only [f_M_size_4, if_pos (show (10 : Int32) ≤ n32 10 by decide)]; rfl
theorem cnt_or {p q s : Nat → Bool} : ∀ (l : List Nat), (∀ x, x ∈ l → p x = (q x || s x) ∧ ¬ (q x = true ∧ s x = true)) → l.countP p = l.countP q + l.countP s
  | [], _ => rfl
  | x :: l, h => by
    have ih := cnt_or l (fun y hy => h y (List.mem_cons_of_mem _ hy))
    obtain ⟨h1, h2⟩ := h x List.mem_cons_self
    rw [List.countP_cons, List.countP_cons, List.countP_cons, ih, h1]
    cases hq : q x <;> cases hs : s x <;> simp [hq, hs] at h2 ⊢ <;> omega
theorem pc_KP (n c : Nat) : pc (KP n c) = pc (ON n c) + pc (OF n c) := cnt_or _ (fun e _ => by
  rw [KP_tb, ON_tb, OF_tb]
  have := tdg_lt c e
  by_cases he : e < n
  · rw [decide_eq_true he]
    rcases (show tdg c e = 0 ∨ tdg c e = 1 ∨ tdg c e = 2 by omega) with h | h | h <;> rw [h] <;> decide
  · rw [decide_eq_false he]; simp)
/-- the key of on and off -/
def ky (on off : Nat) : Nat := (pc on + pc off) * 1048576 + on * 1024 + off
theorem ky_c (n c : Nat) : keyN (KP n c) (ON n c) = ky (ON n c) (OF n c) := by unfold keyN ky; rw [pc_KP, OF_eq]
theorem subI {x : Int32} {c : Nat} (h1 : -1000000 ≤ x.toInt) (h2 : x.toInt ≤ 1000000) (hc : c ≤ 1000000) : (x - n32 c).toInt = x.toInt - c := by
  rw [Int32.toInt_sub, n32_toInt (by omega)]
  exact Int.bmod_eq_of_le (by omega) (by omega)
theorem M_isBefore {on off on' off' : Nat} {w : List va_E} (h1 : on < 1024) (h2 : off < 1024) (h3 : on' < 1024) (h4 : off' < 1024) (hfu : 2000 ≤ fu) : f_M_isBefore fu (n32 on) (n32 off) (n32 on') (n32 off') w = some (b32 (decide (ky on off < ky on' off')), w) := by
  have p1 := pc_le on
  have p2 := pc_le off
  have p3 := pc_le on'
  have p4 := pc_le off'
  simp only [f_M_isBefore, M_size hfu, Option.bind_some, n32_add]
  unfold ky
  have hab : pc on + pc off ≤ 20 := by omega
  clear p1 p2
  generalize pc on + pc off = a at hab ⊢
  generalize pc on' = p at p3 ⊢
  generalize pc off' = q at p4 ⊢
  have hI0 : (n32 (0 : Nat)).toInt = 0 := n32_toInt (by omega)
  by_cases ha20 : a < 1000
  · have i1 : (n32 a - n32 p).toInt = (a : Int) - p := by
      have := subI (x := n32 a) (c := p) (by rw [n32_toInt (by omega)]; omega) (by rw [n32_toInt (by omega)]; omega) (by omega)
      rw [n32_toInt (by omega)] at this; exact this
    have i2 : (n32 a - n32 p - n32 q).toInt = (a : Int) - p - q := by
      have := subI (x := n32 a - n32 p) (c := q) (by rw [i1]; omega) (by rw [i1]; omega) (by omega)
      rw [i1] at this; exact this
    have i3 : (n32 on - n32 on').toInt = (on : Int) - on' := by
      have := subI (x := n32 on) (c := on') (by rw [n32_toInt (by omega)]; omega) (by rw [n32_toInt (by omega)]; omega) (by omega)
      rw [n32_toInt (by omega)] at this; exact this
    by_cases hz : a = p + q
    · rw [if_pos (show n32 a - n32 p - n32 q = 0 from Int32.toInt_inj.mp (by rw [i2]; show _ = (0 : Int); omega))]
      unfold f_M_isBefore_34 f_M_isBefore_64
      by_cases hz2 : on = on'
      · rw [if_pos (show n32 on - n32 on' = 0 from Int32.toInt_inj.mp (by rw [i3]; show _ = (0 : Int); omega))]
        by_cases hz3 : off' ≤ off
        · rw [if_pos ((n32_le (by omega) (by omega)).mpr hz3), decide_eq_false (by omega)]; rfl
        · rw [if_neg (fun q => hz3 ((n32_le (by omega) (by omega)).mp q)), decide_eq_true (by omega)]; rfl
      · rw [if_neg (show ¬ n32 on - n32 on' = 0 from fun q => hz2 (by have := congrArg Int32.toInt q; rw [i3] at this; have : (on : Int) - on' = 0 := this; omega))]
        by_cases hz3 : on' ≤ on
        · rw [if_pos (show (0 : Int32) ≤ n32 on - n32 on' from Int32.le_iff_toInt_le.mpr (by rw [i3]; show (0 : Int) ≤ _; omega)), decide_eq_false (by omega)]; rfl
        · rw [if_neg (show ¬ (0 : Int32) ≤ n32 on - n32 on' from fun q => by have := Int32.le_iff_toInt_le.mp q; rw [i3] at this; have : (0 : Int) ≤ (on : Int) - on' := this; omega), decide_eq_true (by omega)]; rfl
    · have hnz : ¬ n32 a - n32 p - n32 q = 0 := fun h => hz (by have := congrArg Int32.toInt h; rw [i2] at this; have : (a : Int) - p - q = 0 := this; omega)
      rw [if_neg hnz]
      unfold f_M_isBefore_34 f_M_isBefore_64
      rw [if_neg hnz]
      by_cases hz3 : p + q ≤ a
      · rw [if_pos (show (0 : Int32) ≤ n32 a - n32 p - n32 q from Int32.le_iff_toInt_le.mpr (by rw [i2]; show (0 : Int) ≤ _; omega)), decide_eq_false (by omega)]; rfl
      · rw [if_neg (show ¬ (0 : Int32) ≤ n32 a - n32 p - n32 q from fun h => by have := Int32.le_iff_toInt_le.mp h; rw [i2] at this; have : (0 : Int) ≤ (a : Int) - p - q := this; omega), decide_eq_true (by omega)]; rfl
  · omega
/-- a key is that of its on and off -/
def gk (k : Nat) : Prop := k = ky (k / 1024 % 1024) (k % 1024)
theorem ky_p {on off : Nat} (h1 : on < 1024) (h2 : off < 1024) : ky on off / 1024 % 1024 = on ∧ ky on off % 1024 = off ∧ ky on off / 1048576 = pc on + pc off := by
  unfold ky
  omega
/-- what the model's keep may change -/
def FrK (S T : Ws) : Prop := (∀ q k, ¬ (q = 59 ∧ k = 16) → T.1 q k = S.1 q k) ∧ (∀ q, q ≠ 72 → q ≠ 73 → T.2.1 q = S.2.1 q) ∧ T.2.2 = S.2.2
theorem FrK.rf : FrK S S := ⟨fun _ _ _ => rfl, fun _ _ _ => rfl, rfl⟩
theorem FrK.tr {T U : Ws} (h : FrK S T) (g : FrK T U) : FrK S U := ⟨fun q k hq => (g.1 q k hq).trans (h.1 q k hq), fun q h2 h3 => (g.2.1 q h2 h3).trans (h.2.1 q h2 h3), g.2.2.trans h.2.2⟩
/-- the arrays hold a key at j -/
def kh (T : Ws) (j k : Nat) : Prop := T.2.1 72 j = n32 (k / 1024 % 1024) ∧ T.2.1 73 j = n32 (k % 1024)
theorem kh_w {T : Ws} {a b : Int32} {pl : Nat} (j : Nat) : (sI (sI T 72 pl a) 73 pl b).2.1 72 j = (if j = pl then a else T.2.1 72 j) ∧ (sI (sI T 72 pl a) 73 pl b).2.1 73 j = (if j = pl then b else T.2.1 73 j) := by
  constructor
  · rw [sI2, if_neg (by decide), sI2, if_pos rfl, upd_at]
  · rw [sI2, if_pos rfl, upd_at, sI2, if_neg (show ¬ (73 : Nat) = 72 by decide)]
theorem M_keep5 {g : Nat → Nat} {c k : Nat} (hc : c < 300) (hgk : gk k) (hgg : ∀ j, j < c → gk (g j)) (hn : ∀ j, j < c → g j ≠ k) (hi : Inc g c) (hfu : 2000 ≤ fu) : ∀ (pl nf : Nat) (T : Ws), pl ≤ c → pl < nf → T.1 59 16 = n32 c → (∀ j, j < pl → kh T j (g j)) → (∀ j, pl ≤ j → j < c → kh T (j + 1) (g j) ∧ k < g j) → ∃ p T', p ≤ c ∧ (∀ j, j < p → g j < k) ∧ (∀ j, p ≤ j → j < c → k < g j) ∧ (∀ j, j < c + 1 → kh T' j (insF g p k j)) ∧ T'.1 59 16 = n32 (c + 1) ∧ FrK T T' ∧ f_M_keep_5 fu nf 59 (n32 (k / 1024 % 1024)) (n32 (k % 1024)) (n32 pl) (enc T) = some (enc T')
  | _, 0, _, _, h, _, _, _ => absurd h (by omega)
  | pl, nf + 1, T, hpl, hn1, h16, ha, hb => by
    have stop : (pl = 0 ∨ g (pl - 1) < k) → ∃ p T', p ≤ c ∧ (∀ j, j < p → g j < k) ∧ (∀ j, p ≤ j → j < c → k < g j) ∧ (∀ j, j < c + 1 → kh T' j (insF g p k j)) ∧ T'.1 59 16 = n32 (c + 1) ∧ FrK T T' ∧ f_M_keep_67 fu 59 (n32 (k / 1024 % 1024)) (n32 (k % 1024)) (n32 pl) (enc T) = some (enc T') := fun hs => by
      refine ⟨pl, sS (sI (sI T 72 pl (n32 (k / 1024 % 1024))) 73 pl (n32 (k % 1024))) 59 16 (n32 (c + 1)), hpl, fun j hj => ?_, fun j h1 h2 => (hb j h1 h2).2, fun j hj => ?_, rfl, ⟨fun q k' hq => ?_, fun q h2 h3 => by rw [sS2, sI2, if_neg h3, sI2, if_neg h2], rfl⟩, ?_⟩
      · rcases hs with hs | hs
        · omega
        · by_cases hj2 : j = pl - 1
          · rw [hj2]; exact hs
          · exact Nat.lt_trans (hi j (pl - 1) (by omega) (by omega)) hs
      · unfold kh
        rw [sS2, (kh_w j).1, (kh_w j).2]
        unfold insF
        by_cases h1 : j < pl
        · rw [if_pos h1, if_neg (show ¬ j = pl by omega), if_neg (show ¬ j = pl by omega)]; exact ha j h1
        · rw [if_neg h1]
          by_cases h2 : j = pl
          · rw [if_pos h2, if_pos h2, if_pos h2]; exact ⟨rfl, rfl⟩
          · rw [if_neg h2, if_neg h2, if_neg h2]
            have := (hb (j - 1) (by omega) (by omega)).1
            rw [show j - 1 + 1 = j from by omega] at this
            exact this
      · rw [sS1]
        by_cases hq59 : q = 59
        · subst hq59
          rw [if_pos rfl, upd_at, if_neg (fun h => hq ⟨rfl, h⟩)]; rfl
        · rw [if_neg hq59]; rfl
      · have h16' : (sI (sI T 72 pl (n32 (k / 1024 % 1024))) 73 pl (n32 (k % 1024))).1 59 16 = n32 c := h16
        simp only [f_M_keep_67, Option.bind_some, is_0, gr_0_0, gr_0_1, gr_0_2, gr_0_3, gr_0_4, gr_0_5, gi_tp, pi_tp, gi_tf, pi_tf, gi_xf, pi_xf, is_1, gr_1_0, gr_1_1, gi_en, pi_en, is_4, gr_4_0, gr_4_1, gr_4_2, gr_4_3, gi_gn, pi_gn, is_9, gr_9_0, gr_9_1, gi_ts, pi_ts, gi_tw, pi_tw, gi_tc, pi_tc, is_40, gr_40_0, is_42, gr_42_0, gr_42_1, gi_dn, pi_dn, is_45, gr_45_0, gr_45_1, gi_xw, pi_xw, gi_xn, pi_xn, gi_xt, pi_xt, is_59, gi_mco, pi_mco, gi_mev, pi_mev, gr_59_2, gr_59_3, gi_mgt, pi_mgt, gr_59_5, gr_59_6, gr_59_7, gr_59_8, gi_mtp, pi_mtp, gr_59_10, gr_59_11, gr_59_12, gr_59_13, gr_59_14, gr_59_15, gi_mmy, pi_mmy, gr_59_17, gr_59_18, wr_mos (show pl < 301 by omega), wr_mof (show pl < 301 by omega), h16', nl_add]
    by_cases h0 : pl = 0
    · obtain ⟨p, T', a1, a2, a3, a4, a5, a6, a9⟩ := stop (Or.inl h0)
      refine ⟨p, T', a1, a2, a3, a4, a5, a6, ?_⟩
      simp only [f_M_keep_5, if_pos ((n32_lez (show pl < 2147483648 by omega)).mpr h0)]
      exact a9
    · have hle0 : ¬ n32 pl ≤ 0 := fun q => h0 ((n32_lez (show pl < 2147483648 by omega)).mp q)
      obtain ⟨r1, r2⟩ := ha (pl - 1) (by omega)
      have hib := M_isBefore (fu := fu) (on := k / 1024 % 1024) (off := k % 1024) (on' := g (pl - 1) / 1024 % 1024) (off' := g (pl - 1) % 1024) (w := enc T) (by omega) (by omega) (by omega) (by omega) hfu
      have hg1 : ky (k / 1024 % 1024) (k % 1024) = k := hgk.symm
      have hg2 : ky (g (pl - 1) / 1024 % 1024) (g (pl - 1) % 1024) = g (pl - 1) := (hgg (pl - 1) (by omega)).symm
      rw [hg1, hg2] at hib
      have hne := hn (pl - 1) (by omega)
      by_cases hlt : g (pl - 1) < k
      · obtain ⟨p, T', a1, a2, a3, a4, a5, a6, a9⟩ := stop (Or.inr hlt)
        refine ⟨p, T', a1, a2, a3, a4, a5, a6, ?_⟩
        rw [decide_eq_false (by omega)] at hib
        simp only [f_M_keep_5, Option.bind_some, is_0, gr_0_0, gr_0_1, gr_0_2, gr_0_3, gr_0_4, gr_0_5, gi_tp, pi_tp, gi_tf, pi_tf, gi_xf, pi_xf, is_1, gr_1_0, gr_1_1, gi_en, pi_en, is_4, gr_4_0, gr_4_1, gr_4_2, gr_4_3, gi_gn, pi_gn, is_9, gr_9_0, gr_9_1, gi_ts, pi_ts, gi_tw, pi_tw, gi_tc, pi_tc, is_40, gr_40_0, is_42, gr_42_0, gr_42_1, gi_dn, pi_dn, is_45, gr_45_0, gr_45_1, gi_xw, pi_xw, gi_xn, pi_xn, gi_xt, pi_xt, is_59, gi_mco, pi_mco, gi_mev, pi_mev, gr_59_2, gr_59_3, gi_mgt, pi_mgt, gr_59_5, gr_59_6, gr_59_7, gr_59_8, gi_mtp, pi_mtp, gr_59_10, gr_59_11, gr_59_12, gr_59_13, gr_59_14, gr_59_15, gi_mmy, pi_mmy, gr_59_17, gr_59_18, if_neg hle0, nl_sub (show 1 ≤ pl by omega), rd_mos (show pl - 1 < 301 by omega), rd_mof (show pl - 1 < 301 by omega), r1, r2, hib, show b32 false = (0 : Int32) from rfl, if_true]
        exact a9
      · rw [decide_eq_true (by omega)] at hib
        obtain ⟨p, T', a1, a2, a3, a4, a5, a6, a9⟩ := M_keep5 hc hgk hgg hn hi hfu (pl - 1) nf (sI (sI T 72 pl (n32 (g (pl - 1) / 1024 % 1024))) 73 pl (n32 (g (pl - 1) % 1024))) (by omega) (by omega) h16 (fun j hj => by
          unfold kh
          rw [(kh_w j).1, (kh_w j).2, if_neg (show ¬ j = pl by omega), if_neg (show ¬ j = pl by omega)]
          exact ha j (by omega)) (fun j h1 h2 => by
          unfold kh
          rw [(kh_w (j + 1)).1, (kh_w (j + 1)).2]
          by_cases hj : j = pl - 1
          · rw [if_pos (show j + 1 = pl by omega), if_pos (show j + 1 = pl by omega), hj]; exact ⟨⟨rfl, rfl⟩, by omega⟩
          · rw [if_neg (show ¬ j + 1 = pl by omega), if_neg (show ¬ j + 1 = pl by omega)]; exact hb j (by omega) h2)
        refine ⟨p, T', a1, a2, a3, a4, a5, ⟨a6.1, fun q h2 h3 => by rw [a6.2.1 q h2 h3, sI2, if_neg h3, sI2, if_neg h2], a6.2.2⟩, ?_⟩
        have hm1 : n32 pl + (-1 : Int32) = n32 (pl - 1) := by
          rw [← n32_sub (show 1 ≤ pl by omega), Int32.sub_eq_add_neg]; rfl
        have r2' : (sI T 72 pl (n32 (g (pl - 1) / 1024 % 1024))).2.1 73 (pl - 1) = n32 (g (pl - 1) % 1024) := by rw [sI2, if_neg (by decide)]; exact r2
        simp only [f_M_keep_5, Option.bind_some, is_0, gr_0_0, gr_0_1, gr_0_2, gr_0_3, gr_0_4, gr_0_5, gi_tp, pi_tp, gi_tf, pi_tf, gi_xf, pi_xf, is_1, gr_1_0, gr_1_1, gi_en, pi_en, is_4, gr_4_0, gr_4_1, gr_4_2, gr_4_3, gi_gn, pi_gn, is_9, gr_9_0, gr_9_1, gi_ts, pi_ts, gi_tw, pi_tw, gi_tc, pi_tc, is_40, gr_40_0, is_42, gr_42_0, gr_42_1, gi_dn, pi_dn, is_45, gr_45_0, gr_45_1, gi_xw, pi_xw, gi_xn, pi_xn, gi_xt, pi_xt, is_59, gi_mco, pi_mco, gi_mev, pi_mev, gr_59_2, gr_59_3, gi_mgt, pi_mgt, gr_59_5, gr_59_6, gr_59_7, gr_59_8, gi_mtp, pi_mtp, gr_59_10, gr_59_11, gr_59_12, gr_59_13, gr_59_14, gr_59_15, gi_mmy, pi_mmy, gr_59_17, gr_59_18, if_neg hle0, nl_sub (show 1 ≤ pl by omega), rd_mos (show pl - 1 < 301 by omega), rd_mof (show pl - 1 < 301 by omega), r1, r2, r2', hib, show b32 true = (1 : Int32) from rfl, if_neg (show ¬ (1 : Int32) = 0 by decide), wr_mos (show pl < 301 by omega), wr_mof (show pl < 301 by omega), hm1]
        exact a9
theorem Inc.split {g : Nat → Nat} {c k : Nat} (hi : Inc g c) (hne : ∀ j, j < c → g j ≠ k) : ∀ (d m : Nat), m + d = c → (∀ j, j < m → g j < k) → ∃ p, p ≤ c ∧ (∀ j, j < p → g j < k) ∧ (∀ j, p ≤ j → j < c → k < g j)
  | 0, m, h1, h2 => ⟨m, by omega, h2, fun j q1 q2 => absurd q1 (by omega)⟩
  | d + 1, m, h1, h2 => by
    by_cases hlt : g m < k
    · exact Inc.split hi hne d (m + 1) (by omega) (fun j hj => by
        by_cases hjm : j = m
        · rw [hjm]; exact hlt
        · exact h2 j (by omega))
    · refine ⟨m, by omega, h2, fun j q1 q2 => ?_⟩
      have h3 := hne m (by omega)
      by_cases hjm : j = m
      · rw [hjm]; omega
      · have := hi m j (by omega) q2; omega
/-- found among the codes below c -/
def FdC (f : Nat → Bool) (n c k : Nat) : Prop := ∃ c', c' < c ∧ isPr f n (KP n c') (ON n c') ∧ k = keyN (KP n c') (ON n c')
theorem FdC_all {k : Nat} : FdC f n (3 ^ n) k ↔ PrK f n k := by
  constructor
  · rintro ⟨c', -, h1, h2⟩; exact ⟨_, _, h1, h2⟩
  · rintro ⟨kept, on, h1, h2⟩
    refine ⟨tcd n kept on, tcd_lt n kept on, ?_, ?_⟩
    · rw [tcd_KP h1.1, tcd_ON h1.1 h1.2.1]; exact h1
    · rw [tcd_KP h1.1, tcd_ON h1.1 h1.2.1]; exact h2
theorem FdC_gk (hn : n ≤ 10) {c k : Nat} (h : FdC f n c k) : gk k := by
  obtain ⟨c', -, -, h2⟩ := h
  have hp := p10 hn
  have h3 : ON n c' < 2 ^ n := tbn_lt n c'
  have h4 : OF n c' < 2 ^ n := tbn_lt n c'
  rw [ky_c] at h2
  obtain ⟨q1, q2, -⟩ := ky_p (on := ON n c') (off := OF n c') (by omega) (by omega)
  unfold gk
  rw [h2, q1, q2]
/-- kept so far -/
def KS (f : Nat → Bool) (n : Nat) (T : Ws) (c cnt : Nat) (g : Nat → Nat) : Prop := cnt ≤ 300 ∧ Inc g cnt ∧ T.1 59 16 = n32 cnt ∧ (∀ j, j < cnt → kh T j (g j)) ∧ ∀ k, FdC f n c k ↔ ∃ j, j < cnt ∧ g j = k
theorem M_147 (hn : n ≤ 10) (hfu : 2000 ≤ fu) : ∀ (m nf c : Nat) (T : Ws) (cnt : Nat) (g : Nat → Nat), c + m = 3 ^ n → m < nf → T.1 59 1 = n32 n → (∀ c, c < 3 ^ n → (cb T c = true ↔ cauC f n c)) → KS f n T c cnt g → ∃ T', FrK T T' ∧ ((∃ cnt' g', KS f n T' (3 ^ n) cnt' g' ∧ f_M_findPrimes_147 fu nf 59 (n32 (3 ^ n)) (n32 c) (enc T) = some (1, enc T')) ∨ ((∃ c g, 300 < c ∧ Inc g c ∧ ∀ j, j < c → PrK f n (g j)) ∧ f_M_findPrimes_147 fu nf 59 (n32 (3 ^ n)) (n32 c) (enc T) = some (0, enc T')))
  | _, 0, _, _, _, _, _, h, _, _, _ => absurd h (by omega)
  | 0, nf + 1, c, T, cnt, g, hc, _, _, _, hK => by
    have hp3 := p3 hn
    obtain rfl : c = 3 ^ n := by omega
    refine ⟨T, FrK.rf, Or.inl ⟨cnt, g, hK, ?_⟩⟩
    simp only [f_M_findPrimes_147, if_pos (show n32 (3 ^ n) ≤ n32 (3 ^ n) from (n32_le (by omega) (by omega)).mpr (Nat.le_refl _)), or_true, if_true]
  | m + 1, nf + 1, c, T, cnt, g, hc, hnf, hE, hT, hK => by
    have hp3 := p3 hn
    have hle : ¬ n32 (3 ^ n) ≤ n32 c := by rw [n32_le (by omega) (by omega)]; omega
    obtain ⟨b, hb, eb⟩ := M_isPrime (fu := fu) (S := T) (c := c) hn (by omega) hE hT hfu
    obtain ⟨k1, k2, k3, k4, k5⟩ := id hK
    cases hbb : b with
    | false =>
      have hnp : ¬ isPr f n (KP n c) (ON n c) := fun h => by rw [hb.mpr h] at hbb; cases hbb
      obtain ⟨T', t1, t2⟩ := M_147 hn hfu m nf (c + 1) T cnt g (by omega) (by omega) hE hT ⟨k1, k2, k3, k4, fun k => by
        rw [← k5 k]
        constructor
        · rintro ⟨c', h1, h2, h3⟩
          by_cases hcc : c' = c
          · rw [hcc] at h2; exact absurd h2 hnp
          · exact ⟨c', by omega, h2, h3⟩
        · rintro ⟨c', h1, h2, h3⟩; exact ⟨c', by omega, h2, h3⟩⟩
      have e2 : f_M_findPrimes_147 fu (nf + 1) 59 (n32 (3 ^ n)) (n32 c) (enc T) = f_M_findPrimes_147 fu nf 59 (n32 (3 ^ n)) (n32 (c + 1)) (enc T) := by
        simp only [f_M_findPrimes_147, f_M_findPrimes_188, Option.bind_some, is_0, gr_0_0, gr_0_1, gr_0_2, gr_0_3, gr_0_4, gr_0_5, gi_tp, pi_tp, gi_tf, pi_tf, gi_xf, pi_xf, is_1, gr_1_0, gr_1_1, gi_en, pi_en, is_4, gr_4_0, gr_4_1, gr_4_2, gr_4_3, gi_gn, pi_gn, is_9, gr_9_0, gr_9_1, gi_ts, pi_ts, gi_tw, pi_tw, gi_tc, pi_tc, is_40, gr_40_0, is_42, gr_42_0, gr_42_1, gi_dn, pi_dn, is_45, gr_45_0, gr_45_1, gi_xw, pi_xw, gi_xn, pi_xn, gi_xt, pi_xt, is_59, gi_mco, pi_mco, gi_mev, pi_mev, gr_59_2, gr_59_3, gi_mgt, pi_mgt, gr_59_5, gr_59_6, gr_59_7, gr_59_8, gi_mtp, pi_mtp, gr_59_10, gr_59_11, gr_59_12, gr_59_13, gr_59_14, gr_59_15, gi_mmy, pi_mmy, gr_59_17, gr_59_18, if_neg hle, eb, hbb, show b32 false = (0 : Int32) from rfl, if_true, nl_add]
      refine ⟨T', t1, ?_⟩
      rw [e2]; exact t2
    | true =>
      have hpr := hb.mp hbb
      have hp2 := p10 hn
      have hKl : KP n c < 2 ^ n := tbn_lt n c
      have hgne : ∀ j, j < cnt → g j ≠ keyN (KP n c) (ON n c) := fun j hj e => by
        obtain ⟨c', h1, h2, h3⟩ := (k5 (g j)).mpr ⟨j, hj, rfl⟩
        have hKl' : KP n c' < 2 ^ n := tbn_lt n c'
        have := keyN_inj (by omega) (sub_le (ON_KP n c)) (by omega) (sub_le (ON_KP n c')) (e.symm.trans h3)
        have := code_inj (show c < 3 ^ n by omega) (show c' < 3 ^ n by omega) this.1 this.2
        omega
      have hgP : ∀ j, j < cnt → PrK f n (g j) := fun j hj => by
        obtain ⟨c', h1, h2, h3⟩ := (k5 (g j)).mpr ⟨j, hj, rfl⟩
        exact ⟨_, _, h2, h3⟩
      by_cases h300 : cnt = 300
      · obtain ⟨p, p1, p2, p3'⟩ := Inc.split k2 hgne cnt 0 (by omega) (fun j h => absurd h (by omega))
        refine ⟨T, FrK.rf, Or.inr ⟨⟨cnt + 1, insF g p (keyN (KP n c) (ON n c)), by omega, k2.ins p1 p2 p3', fun j hj => ?_⟩, ?_⟩⟩
        · rcases (ins_mem (x := insF g p (keyN (KP n c) (ON n c)) j) p1).mp ⟨j, hj, rfl⟩ with e | ⟨j', hj', e⟩
          · rw [e]; exact ⟨_, _, hpr, rfl⟩
          · rw [← e]; exact hgP j' hj'
        · simp only [f_M_findPrimes_147, Option.bind_some, is_0, gr_0_0, gr_0_1, gr_0_2, gr_0_3, gr_0_4, gr_0_5, gi_tp, pi_tp, gi_tf, pi_tf, gi_xf, pi_xf, is_1, gr_1_0, gr_1_1, gi_en, pi_en, is_4, gr_4_0, gr_4_1, gr_4_2, gr_4_3, gi_gn, pi_gn, is_9, gr_9_0, gr_9_1, gi_ts, pi_ts, gi_tw, pi_tw, gi_tc, pi_tc, is_40, gr_40_0, is_42, gr_42_0, gr_42_1, gi_dn, pi_dn, is_45, gr_45_0, gr_45_1, gi_xw, pi_xw, gi_xn, pi_xn, gi_xt, pi_xt, is_59, gi_mco, pi_mco, gi_mev, pi_mev, gr_59_2, gr_59_3, gi_mgt, pi_mgt, gr_59_5, gr_59_6, gr_59_7, gr_59_8, gi_mtp, pi_mtp, gr_59_10, gr_59_11, gr_59_12, gr_59_13, gr_59_14, gr_59_15, gi_mmy, pi_mmy, gr_59_17, gr_59_18, if_neg hle, eb, hbb, show b32 true = (1 : Int32) from rfl, if_neg (show ¬ (1 : Int32) = 0 by decide), k3, h300, if_pos (show n32 300 = (300 : Int32) from rfl), true_or, if_true]
      · have hOl : ON n c < 2 ^ n := tbn_lt n c
        have hFl : OF n c < 2 ^ n := tbn_lt n c
        have hFd : FdC f n (c + 1) (keyN (KP n c) (ON n c)) := ⟨c, by omega, hpr, rfl⟩
        obtain ⟨q1, q2, -⟩ := ky_p (on := ON n c) (off := OF n c) (by omega) (by omega)
        rw [← ky_c] at q1 q2
        obtain ⟨p, U, a1, a2, a3, a4, a5, a6, a7⟩ := M_keep5 (fu := fu) (c := cnt) (g := g) (k := keyN (KP n c) (ON n c)) (by omega) (FdC_gk hn hFd) (fun j hj => FdC_gk hn ((k5 (g j)).mpr ⟨j, hj, rfl⟩)) hgne k2 hfu cnt fu T (Nat.le_refl _) (by omega) k3 k4 (fun j h1 h2 => absurd h1 (by omega))
        rw [q1, q2] at a7
        have hEU : U.1 59 1 = n32 n := by rw [a6.1 59 1 (by omega)]; exact hE
        have hcbU : ∀ c, cb U c = cb T c := fun c => by unfold cb; rw [a6.2.2]
        obtain ⟨T', t1, t2⟩ := M_147 hn hfu m nf (c + 1) U (cnt + 1) (insF g p (keyN (KP n c) (ON n c))) (by omega) (by omega) hEU (fun c hc => by rw [hcbU]; exact hT c hc) ⟨by omega, k2.ins a1 a2 a3, a5, a4, fun k => by
          rw [ins_mem a1, ← k5 k]
          constructor
          · rintro ⟨c', h1, h2, h3⟩
            by_cases hcc : c' = c
            · rw [hcc] at h3; exact Or.inl h3
            · exact Or.inr ⟨c', by omega, h2, h3⟩
          · rintro (h | ⟨c', h1, h2, h3⟩)
            · exact ⟨c, by omega, hpr, h⟩
            · exact ⟨c', by omega, h2, h3⟩⟩
        have eo1 : f_M_eventsOf fu 59 (n32 c) (1 : Int32) (enc T) = some (n32 (ON n c), enc T) := M_eo (fu := fu) (d := 1) hn (by omega) (by omega) hE hfu
        have eo0 : f_M_eventsOf fu 59 (n32 c) (0 : Int32) (enc T) = some (n32 (OF n c), enc T) := M_eo (fu := fu) (d := 0) hn (by omega) (by omega) hE hfu
        have hc3 : ¬ n32 cnt = (300 : Int32) := fun q => h300 ((nl_eq (by omega) (by omega)).mp q)
        have e2 : f_M_findPrimes_147 fu (nf + 1) 59 (n32 (3 ^ n)) (n32 c) (enc T) = f_M_findPrimes_147 fu nf 59 (n32 (3 ^ n)) (n32 (c + 1)) (enc U) := by
          simp only [f_M_findPrimes_147, f_M_findPrimes_188, f_M_keep, Option.bind_some, is_0, gr_0_0, gr_0_1, gr_0_2, gr_0_3, gr_0_4, gr_0_5, gi_tp, pi_tp, gi_tf, pi_tf, gi_xf, pi_xf, is_1, gr_1_0, gr_1_1, gi_en, pi_en, is_4, gr_4_0, gr_4_1, gr_4_2, gr_4_3, gi_gn, pi_gn, is_9, gr_9_0, gr_9_1, gi_ts, pi_ts, gi_tw, pi_tw, gi_tc, pi_tc, is_40, gr_40_0, is_42, gr_42_0, gr_42_1, gi_dn, pi_dn, is_45, gr_45_0, gr_45_1, gi_xw, pi_xw, gi_xn, pi_xn, gi_xt, pi_xt, is_59, gi_mco, pi_mco, gi_mev, pi_mev, gr_59_2, gr_59_3, gi_mgt, pi_mgt, gr_59_5, gr_59_6, gr_59_7, gr_59_8, gi_mtp, pi_mtp, gr_59_10, gr_59_11, gr_59_12, gr_59_13, gr_59_14, gr_59_15, gi_mmy, pi_mmy, gr_59_17, gr_59_18, if_neg hle, eb, hbb, show b32 true = (1 : Int32) from rfl, if_neg (show ¬ (1 : Int32) = 0 by decide), k3, if_neg hc3, eo1, eo0, a7, nl_add]
        refine ⟨T', a6.tr t1, ?_⟩
        rw [e2]; exact t2
end
