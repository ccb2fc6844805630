/-! isTrue, freshenTruth, value -/
section
variable {fu : Nat} {S : Ws} {A : Ab} {r : Nat → Nat}
theorem lg_0 {x y : Int64} : lg_cmp x y = 0 ↔ x = y := by
  unfold lg_cmp
  constructor
  · intro h
    by_cases h1 : x > y
    · rw [if_pos h1] at h; exact absurd h (by decide)
    · rw [if_neg h1] at h
      by_cases h2 : x = y
      · exact h2
      · rw [if_neg h2] at h; exact absurd h (by decide)
  · intro h
    subst h
    rw [if_neg (fun q => by have := Int64.lt_iff_toInt_lt.mp q; omega), if_pos rfl]
theorem lg_lt {x y : Int64} : lg_cmp x y < 0 ↔ x < y := by
  unfold lg_cmp
  by_cases h1 : x > y
  · rw [if_pos h1]
    constructor
    · intro h; exact absurd h (by decide)
    · intro h
      have := Int64.lt_iff_toInt_lt.mp h
      have := Int64.lt_iff_toInt_lt.mp h1
      omega
  · rw [if_neg h1]
    by_cases h2 : x = y
    · subst h2
      rw [if_pos rfl]
      constructor
      · intro h; exact absurd h (by decide)
      · intro h; exact absurd h h1
    · rw [if_neg h2]
      constructor
      · intro _
        rw [Int64.lt_iff_toInt_lt]
        have h3 : ¬ y.toInt < x.toInt := fun q => h1 (Int64.lt_iff_toInt_lt.mpr q)
        have h4 : ¬ x.toInt = y.toInt := fun q => h2 (Int64.toInt_inj.mp q)
        omega
      · intro _; decide
theorem sh64 : ∀ k, k < 64 → (UInt64.mod ((n32 k).toInt64.toUInt64 &&& Int64.toUInt64 63) 64).toBitVec.toNat = k := by decide +kernel
theorem lb_shr {y : Int64} {k j : Nat} (h : k < 64) : lb ((y.toUInt64 >>> ((n32 k).toInt64.toUInt64 &&& Int64.toUInt64 63)).toInt64) j = lb y (k + j) := by
  show (y.toBitVec >>> (UInt64.mod ((n32 k).toInt64.toUInt64 &&& Int64.toUInt64 63) 64).toBitVec).getLsbD j = _
  rw [BitVec.ushiftRight_eq', sh64 k h, BitVec.getLsbD_ushiftRight]; rfl
theorem lb_1 (j : Nat) : lb 1 j = decide (j = 0) := by
  unfold lb
  rw [show (1 : Int64).toBitVec = 1#64 from rfl, BitVec.getLsbD_one]
  by_cases h : j = 0
  · subst h; rfl
  · simp [h]
theorem lsr1 {y : Int64} {k : Nat} (h : k < 64) : lg_cmp ((y.toUInt64 >>> ((n32 k).toInt64.toUInt64 &&& Int64.toUInt64 63)).toInt64 &&& (1 : Int64)) (0 : Int64) = 0 ↔ lb y k = false := by
  rw [lg_0]
  constructor
  · intro q
    have := congrArg (fun z => lb z 0) q
    simp only [lb_and, lb_shr h, lb_1, lb_0] at this
    simpa using this
  · intro q
    apply lb_ext; intro j hj
    rw [lb_and, lb_shr h, lb_1, lb_0]
    by_cases h0 : j = 0
    · subst h0; simp [q]
    · simp [h0]
theorem n32_mk {n : Nat} : n32 (2 ^ n) - (1 : Int32) = n32 (2 ^ n - 1) := nl_sub (k := 1) (a := 2 ^ n) Nat.one_le_two_pow
theorem and_mk (v : Int32) {n : Nat} (h : n ≤ 10) : v &&& (n32 (2 ^ n) - 1) = n32 (v.toBitVec.toNat % 2 ^ n) := by
  rw [n32_mk]
  apply bt_ext; intro k hk
  rw [bt_and, bt_n, bt_n, Nat.testBit_two_pow_sub_one, Nat.testBit_mod_two_pow]
  show (v.toBitVec.toNat.testBit k && _) = _
  by_cases hkn : k < n
  · simp [hk, hkn]
  · simp [hk, hkn]
theorem and_mks {s n : Nat} (hs : s < 2 ^ n) : n32 s &&& (n32 (2 ^ n) - 1) = n32 s := by
  rw [n32_mk]
  apply bt_ext; intro k hk
  rw [bt_and, bt_n, bt_n, Nat.testBit_two_pow_sub_one]
  by_cases hkn : k < n
  · simp [hk, hkn]
  · rw [Nat.testBit_lt_two_pow (Nat.lt_of_lt_of_le hs (Nat.pow_le_pow_right (by omega) (by omega)))]; simp
theorem p10 {n : Nat} (h : n ≤ 10) : 2 ^ n ≤ 1024 := Nat.pow_le_pow_right (n := 2) (by omega) h
/-- the desk's table is that of f -/
def Tb (S : Ws) (n t : Nat) (f : Nat → Bool) : Prop := S.1 9 2 = n32 (2 ^ n) ∧ S.1 9 3 = n32 (wo n) ∧ S.1 9 4 = n32 (16 + t) ∧ ∀ s, s < 64 * wo n → lb (S.2.2 (11 + (16 + t)) (s / 64)) (s % 64) = f s
theorem wo_s {n s : Nat} (h : s < 2 ^ n) : s < 64 * wo n := by
  unfold wo
  split
  · have : 2 ^ n / 64 * 64 = 2 ^ n ∨ n < 6 := by
      by_cases h6 : n < 6
      · exact Or.inr h6
      · refine Or.inl ?_
        obtain ⟨k, rfl⟩ : ∃ k, n = k + 6 := ⟨n - 6, by omega⟩
        rw [Nat.pow_add]; omega
    rcases this with h1 | h1
    · omega
    · have := Nat.pow_le_pow_right (n := 2) (by omega) (show n ≤ 5 by omega)
      omega
  · rename_i hlt
    by_cases h6 : n ≤ 6
    · have := Nat.pow_le_pow_right (n := 2) (by omega) h6
      omega
    · have := Nat.pow_le_pow_right (n := 2) (by omega) (show 7 ≤ n by omega)
      omega
theorem T_isTrue {n t s : Nat} {f : Nat → Bool} {v : Int32} (hn : n ≤ 10) (ht : t < 12) (hs : s < 2 ^ n) (B : Tb S n t f) (hv : v &&& (n32 (2 ^ n) - 1) = n32 s) : f_T_isTrue fu 9 v (enc S) = some (b32 (f s), enc S) := by
  have hp := p10 hn
  have hm : n32 s - n32 (s / 64 * 64) = n32 (s % 64) := by
    rw [n32_sub (by omega)]; congr 1; omega
  have hb := B.2.2.2 s (wo_s hs)
  simp only [f_T_isTrue, f_T_isTrue_40, Option.bind_some, is_0, gr_0_0, gr_0_1, gr_0_2, gr_0_3, gr_0_4, gr_0_5, gi_tp, pi_tp, gi_tf, pi_tf, gi_xf, pi_xf, is_1, gr_1_0, gr_1_1, gi_en, pi_en, is_4, gr_4_0, gr_4_1, gr_4_2, gr_4_3, gi_gn, pi_gn, is_9, gr_9_0, gr_9_1, gi_ts, pi_ts, gi_tw, pi_tw, gi_tc, pi_tc, is_40, gr_40_0, is_42, gr_42_0, gr_42_1, gi_dn, pi_dn, is_45, gr_45_0, gr_45_1, gi_xw, pi_xw, gi_xn, pi_xn, gi_xt, pi_xt, is_59, gi_mco, pi_mco, gi_mev, pi_mev, gr_59_2, gr_59_3, gi_mgt, pi_mgt, gr_59_5, gr_59_6, gr_59_7, gr_59_8, gi_mtp, pi_mtp, gr_59_10, gr_59_11, gr_59_12, gr_59_13, gr_59_14, gr_59_15, gi_mmy, pi_mmy, gr_59_17, gr_59_18, B.1, B.2.2.1, hv, ra_rw (show 16 + t < 28 by omega), nl_div (show s < 2147483648 by omega) (show 64 < 2147483648 by omega) (show 64 ≠ 0 by omega), rd_rw (show 16 + t < 28 by omega) (show s / 64 < 16 by omega), nl_mul, hm, lsr1 (show s % 64 < 64 by omega), hb]
  cases f s <;> rfl
/-- what freshenTruth may change -/
def FrF (S T : Ws) : Prop := (∀ q, q ≠ 0 → q ≠ 9 → T.1 q = S.1 q) ∧ (∀ k, k ≠ 7 → T.1 0 k = S.1 0 k) ∧ (∀ q, q ≠ 39 → T.2.1 q = S.2.1 q) ∧ (∀ q, q < 11 ∨ 39 ≤ q → T.2.2 q = S.2.2 q)
theorem Inv.fr {T : Ws} (I : Inv S A r) (F : FrF S T) (h7 : T.1 0 7 = 0 ∨ T.1 0 7 = 1) (hT : T.1 0 7 = 1 → TrOK T A r) : Inv T A r := by
  obtain ⟨O, D, M, T1, T2⟩ := I
  obtain ⟨f1, f2, f3, f4⟩ := F
  refine ⟨O, ?_, ?_, hT, ?_⟩
  · obtain ⟨d1, d2, d3, d4, d5, d6, d7, d8⟩ := D
    refine ⟨?_, ?_, ?_, ?_, ?_, ?_, h7, ?_⟩
    · rw [f1 1 (by omega) (by omega)]; exact d1
    · rw [f3 2 (by omega), f3 3 (by omega)]; exact d2
    · rw [f1 4 (by omega) (by omega)]; exact d3
    · rw [f3 5 (by omega), f3 6 (by omega)]; exact d4
    · rw [f3 7 (by omega), f3 8 (by omega)]; exact d5
    · rw [f2 6 (by omega)]; exact d6
    · rw [f2 8 (by omega)]; exact d8
  · unfold RM at M ⊢
    rw [f1 59 (by omega) (by omega), f3 60 (by omega), f3 61 (by omega), f3 62 (by omega), f3 63 (by omega), f3 64 (by omega), f3 65 (by omega)]; exact M
  · intro h
    rw [f2 8 (by omega)] at h
    obtain ⟨t, a1, L, a2, a3, a4⟩ := T2 h
    refine ⟨t, a1, L, a2, ?_, ?_⟩
    · rw [f1 45 (by omega) (by omega), f3 46 (by omega)]; exact a3
    · rw [f1 45 (by omega) (by omega)]; exact a4
theorem RD.rg (D : RD S A) : RG S A := ⟨D.2.2.1, D.2.2.2.1, D.2.2.2.2.1⟩
theorem TrOK.tb {t : Nat} (h : TrOK S A r) (ht : aT A = some t) : Tb S (aE A) t (fun s => evR A r s t) := by
  obtain ⟨t', h0, h1⟩ := h
  rw [ht] at h0
  obtain rfl := Option.some.inj h0
  exact h1
theorem F_fresh (I : Inv S A r) {t : Nat} (ht : aT A = some t) (hfu : 200 ≤ fu) : ∃ T, FrF S T ∧ Inv T A r ∧ Tb T (aE A) t (fun s => evR A r s t) ∧ f_F_freshenTruth fu 0 (enc S) = some (enc T) := by
  obtain ⟨O, D, M, T1, T2⟩ := id I
  rcases D.2.2.2.2.2.2.1 with h7 | h7
  · have htg := O.2.2.2.2.2.2.2 t ht
    have hE := O.1
    have hT6 := D.2.2.2.2.2.1
    rw [ht] at hT6
    obtain ⟨U, ⟨u1, u2, u3⟩, u4, u5, u6, u7, u8⟩ := T_fill (fu := fu) O D.rg htg D.1 (-1) (fun e he => by
      rw [if_neg (fun q => n32_nn (n := e) (by omega) (by rw [q]; decide))]; exact (D.2.1 e he).2) hfu
    have B : Tb (sS U 0 7 1) (aE A) t (fun s => evR A r s t) := ⟨u4, u5, u6, fun s hs => by
      have := u7 (s / 64) (by omega) (s % 64) (by omega)
      rw [show 64 * (s / 64) + s % 64 = s from by omega] at this
      exact this⟩
    have F : FrF S (sS U 0 7 1) := ⟨fun q h0 h9 => by rw [sS1, if_neg h0]; exact u1 q h9, fun k hk => by rw [sS1, if_pos rfl, upd_at, if_neg hk]; exact congrFun (u1 0 (by omega)) k, u2, u3⟩
    refine ⟨sS U 0 7 1, F, I.fr F (Or.inr rfl) (fun _ => ⟨t, ht, B⟩), B, ?_⟩
    simp only [f_F_freshenTruth, f_F_freshenTruth_32, Option.bind_some, is_0, gr_0_0, gr_0_1, gr_0_2, gr_0_3, gr_0_4, gr_0_5, gi_tp, pi_tp, gi_tf, pi_tf, gi_xf, pi_xf, is_1, gr_1_0, gr_1_1, gi_en, pi_en, is_4, gr_4_0, gr_4_1, gr_4_2, gr_4_3, gi_gn, pi_gn, is_9, gr_9_0, gr_9_1, gi_ts, pi_ts, gi_tw, pi_tw, gi_tc, pi_tc, is_40, gr_40_0, is_42, gr_42_0, gr_42_1, gi_dn, pi_dn, is_45, gr_45_0, gr_45_1, gi_xw, pi_xw, gi_xn, pi_xn, gi_xt, pi_xt, is_59, gi_mco, pi_mco, gi_mev, pi_mev, gr_59_2, gr_59_3, gi_mgt, pi_mgt, gr_59_5, gr_59_6, gr_59_7, gr_59_8, gi_mtp, pi_mtp, gr_59_10, gr_59_11, gr_59_12, gr_59_13, gr_59_14, gr_59_15, gi_mmy, pi_mmy, gr_59_17, gr_59_18, h7, if_true, hT6, u8, pz_tf (Or.inr rfl)]
  · refine ⟨S, ⟨fun _ _ _ => rfl, fun _ _ => rfl, fun _ _ => rfl, fun _ _ => rfl⟩, I, (T1 h7).tb ht, ?_⟩
    simp only [f_F_freshenTruth, f_F_freshenTruth_32, Option.bind_some, is_0, gr_0_0, gr_0_1, gr_0_2, gr_0_3, gr_0_4, gr_0_5, gi_tp, pi_tp, gi_tf, pi_tf, gi_xf, pi_xf, is_1, gr_1_0, gr_1_1, gi_en, pi_en, is_4, gr_4_0, gr_4_1, gr_4_2, gr_4_3, gi_gn, pi_gn, is_9, gr_9_0, gr_9_1, gi_ts, pi_ts, gi_tw, pi_tw, gi_tc, pi_tc, is_40, gr_40_0, is_42, gr_42_0, gr_42_1, gi_dn, pi_dn, is_45, gr_45_0, gr_45_1, gi_xw, pi_xw, gi_xn, pi_xn, gi_xt, pi_xt, is_59, gi_mco, pi_mco, gi_mev, pi_mev, gr_59_2, gr_59_3, gi_mgt, pi_mgt, gr_59_5, gr_59_6, gr_59_7, gr_59_8, gi_mtp, pi_mtp, gr_59_10, gr_59_11, gr_59_12, gr_59_13, gr_59_14, gr_59_15, gi_mmy, pi_mmy, gr_59_17, gr_59_18, h7, if_neg (show ¬ (1 : Int32) = 0 by decide)]
theorem Inv.out (I : Inv S A r) (x : Int64) : Inv (sL S 74 0 x) A r := I.cg rfl rfl rfl rfl rfl rfl rfl rfl (fun _ _ => rfl) (fun q h1 h2 => by
  show upL S.2.2 74 0 _ q = _
  exact upL_ne (by omega))
theorem c_value (I : Inv S A r) (v : Int32) (hfu : 2000 ≤ fu) : ∃ k S1 b S2, f_L_value fu 0 v 74 (enc S) = some (k, enc S1) ∧ f_M_value fu 59 v (enc S1) = some (b32 b, enc S2) ∧ S2.1 59 0 = k ∧ (k = 0 → S2.2.2 74 0 = if b = true then 1 else 0) ∧ ∃ A r, Inv S2 A r := by
  obtain ⟨O, D, M, T, X⟩ := id I
  have hT := D.2.2.2.2.2.1
  cases ht : aT A with
  | none =>
    rw [ht] at hT
    refine ⟨1, S, false, sS S 59 0 1, ?_, ?_, rfl, fun h => absurd h (by decide), A, r, I.code 1⟩
    · simp only [f_L_value, f_F_value, Option.bind_some, is_0, gr_0_0, gr_0_1, gr_0_2, gr_0_3, gr_0_4, gr_0_5, gi_tp, pi_tp, gi_tf, pi_tf, gi_xf, pi_xf, is_1, gr_1_0, gr_1_1, gi_en, pi_en, is_4, gr_4_0, gr_4_1, gr_4_2, gr_4_3, gi_gn, pi_gn, is_9, gr_9_0, gr_9_1, gi_ts, pi_ts, gi_tw, pi_tw, gi_tc, pi_tc, is_40, gr_40_0, is_42, gr_42_0, gr_42_1, gi_dn, pi_dn, is_45, gr_45_0, gr_45_1, gi_xw, pi_xw, gi_xn, pi_xn, gi_xt, pi_xt, is_59, gi_mco, pi_mco, gi_mev, pi_mev, gr_59_2, gr_59_3, gi_mgt, pi_mgt, gr_59_5, gr_59_6, gr_59_7, gr_59_8, gi_mtp, pi_mtp, gr_59_10, gr_59_11, gr_59_12, gr_59_13, gr_59_14, gr_59_15, gi_mmy, pi_mmy, gr_59_17, gr_59_18, F_needTop (t := none) (fun _ h => by cases h) hT, hx_inl, hl_inl, if_true]
    · simp only [f_M_value, f_M_value_30, f_M_value_31, Option.bind_some, is_0, gr_0_0, gr_0_1, gr_0_2, gr_0_3, gr_0_4, gr_0_5, gi_tp, pi_tp, gi_tf, pi_tf, gi_xf, pi_xf, is_1, gr_1_0, gr_1_1, gi_en, pi_en, is_4, gr_4_0, gr_4_1, gr_4_2, gr_4_3, gi_gn, pi_gn, is_9, gr_9_0, gr_9_1, gi_ts, pi_ts, gi_tw, pi_tw, gi_tc, pi_tc, is_40, gr_40_0, is_42, gr_42_0, gr_42_1, gi_dn, pi_dn, is_45, gr_45_0, gr_45_1, gi_xw, pi_xw, gi_xn, pi_xn, gi_xt, pi_xt, is_59, gi_mco, pi_mco, gi_mev, pi_mev, gr_59_2, gr_59_3, gi_mgt, pi_mgt, gr_59_5, gr_59_6, gr_59_7, gr_59_8, gi_mtp, pi_mtp, gr_59_10, gr_59_11, gr_59_12, gr_59_13, gr_59_14, gr_59_15, gi_mmy, pi_mmy, gr_59_17, gr_59_18, M_lacks0 M ht (v := 1) (by decide), if_neg (show ¬ (1 : Int32) = 0 by decide), true_or, if_true]; rfl
  | some t =>
    have htg := O.2.2.2.2.2.2.2 t ht
    have hG := O.2.1
    have hE := O.1
    rw [ht] at hT
    obtain ⟨U, F, IU, B, eU⟩ := F_fresh (fu := fu) I ht (by omega)
    have hs : v.toBitVec.toNat % 2 ^ aE A < 2 ^ aE A := Nat.mod_lt _ (Nat.two_pow_pos _)
    have hmk := and_mk v hE
    generalize v.toBitVec.toNat % 2 ^ aE A = s at hs hmk
    have hp := p10 hE
    have e1 := T_isTrue (fu := fu) hE (show t < 12 by omega) hs B hmk
    obtain ⟨W, w1, w2, w3⟩ := M_lacks1 (fu := fu) (S := sL U 74 0 (if evR A r s t = true then 1 else 0)) O (IU.out _).2.2.1 ht (v := 1) hfu
    refine ⟨0, sL U 74 0 (if evR A r s t = true then 1 else 0), evR A r s t, W, ?_, ?_, ?_, fun _ => ?_, A, r, ?_⟩
    · simp only [f_L_value, f_L_value_15, f_F_value, Option.bind_some, is_0, gr_0_0, gr_0_1, gr_0_2, gr_0_3, gr_0_4, gr_0_5, gi_tp, pi_tp, gi_tf, pi_tf, gi_xf, pi_xf, is_1, gr_1_0, gr_1_1, gi_en, pi_en, is_4, gr_4_0, gr_4_1, gr_4_2, gr_4_3, gi_gn, pi_gn, is_9, gr_9_0, gr_9_1, gi_ts, pi_ts, gi_tw, pi_tw, gi_tc, pi_tc, is_40, gr_40_0, is_42, gr_42_0, gr_42_1, gi_dn, pi_dn, is_45, gr_45_0, gr_45_1, gi_xw, pi_xw, gi_xn, pi_xn, gi_xt, pi_xt, is_59, gi_mco, pi_mco, gi_mev, pi_mev, gr_59_2, gr_59_3, gi_mgt, pi_mgt, gr_59_5, gr_59_6, gr_59_7, gr_59_8, gi_mtp, pi_mtp, gr_59_10, gr_59_11, gr_59_12, gr_59_13, gr_59_14, gr_59_15, gi_mmy, pi_mmy, gr_59_17, gr_59_18, F_needTop (t := some t) (fun k h => by obtain rfl := Option.some.inj h; omega) hT, hx_inr, eU, e1, if_pos (b32_ok _), hl_inr, wr_out0]
      cases evR A r s t <;> rfl
    · have hW1 : W.1 59 1 = n32 (aE A) := by rw [w1.1]; exact (IU.out (if evR A r s t = true then 1 else 0)).2.2.1.1
      simp only [f_M_value, f_M_value_30, f_M_value_31, Option.bind_some, is_0, gr_0_0, gr_0_1, gr_0_2, gr_0_3, gr_0_4, gr_0_5, gi_tp, pi_tp, gi_tf, pi_tf, gi_xf, pi_xf, is_1, gr_1_0, gr_1_1, gi_en, pi_en, is_4, gr_4_0, gr_4_1, gr_4_2, gr_4_3, gi_gn, pi_gn, is_9, gr_9_0, gr_9_1, gi_ts, pi_ts, gi_tw, pi_tw, gi_tc, pi_tc, is_40, gr_40_0, is_42, gr_42_0, gr_42_1, gi_dn, pi_dn, is_45, gr_45_0, gr_45_1, gi_xw, pi_xw, gi_xn, pi_xn, gi_xt, pi_xt, is_59, gi_mco, pi_mco, gi_mev, pi_mev, gr_59_2, gr_59_3, gi_mgt, pi_mgt, gr_59_5, gr_59_6, gr_59_7, gr_59_8, gi_mtp, pi_mtp, gr_59_10, gr_59_11, gr_59_12, gr_59_13, gr_59_14, gr_59_15, gi_mmy, pi_mmy, gr_59_17, gr_59_18, w3, if_true, hW1, n32_shl (show aE A < 31 by omega), hmk, rd_mtr (show s < 1024 by omega), w2 s hs]
      cases evR A r s t <;> rfl
    · rw [w1.1]; rfl
    · rw [w1.2.1]; rfl
    · exact ((IU.out _).code 0).frw w1
end
