/-! odds, digit -/
section
variable {fu : Nat} {S : Ws} {A : Ab} {r : Nat → Nat}
theorem ev_same {A A' : Ab} {s s' : Nat} (hK : aK A = aK A') (hV : aV A = aV A') (hX : aX A = aX A') (h : ∀ f c, cv (aH A) s f c = cv (aH A') s' f c) : ∀ n g, ev A s n g = ev A' s' n g
  | 0, _ => rfl
  | n + 1, g => by
    show ge A s (ev A s n) g = ge A' s' (ev A' s' n) g
    rw [show ev A s n = ev A' s' n from funext (ev_same hK hV hX h n)]
    have hc : cv (aH A) s (ev A' s' n) = cv (aH A') s' (ev A' s' n) := funext (h _)
    unfold ge
    rw [hK, hV, hX, hc]
theorem tb_ind {a k i c : Nat} (hi : i < 2 ^ k) (h : c ≠ k) : (2 * a * 2 ^ k + i).testBit c = ((2 * a + 1) * 2 ^ k + i).testBit c := by
  rw [tb_m hi, tb_m hi]
  by_cases hc : c < k
  · rw [if_pos hc, if_pos hc]
  · rw [if_neg hc, if_neg hc]
    obtain ⟨j, hj⟩ : ∃ j, c - k = j + 1 := ⟨c - k - 1, by omega⟩
    rw [hj, Nat.testBit_succ, Nat.testBit_succ]
    congr 1; omega
theorem ev_ind {t k : Nat} (hk : aH A k ≠ 0) : Ind (fun s => evR A r s t) k := fun a i hi => by
  refine ev_same rfl rfl rfl (fun f c => ?_) _ _
  unfold cv
  by_cases hc : 16 ≤ c
  · rw [if_pos hc, if_pos hc]
  · rw [if_neg hc, if_neg hc]
    by_cases h0 : aH A c = 0
    · rw [if_pos h0, if_pos h0]
      exact tb_ind hi (fun e => hk (e ▸ h0))
    · rw [if_neg h0, if_neg h0]
theorem w16 : ∀ c, c < 17 → ((16 : Int32) - n32 c).toInt64 + (n32 c).toInt64 = (16 : Int32).toInt64 := by decide
theorem n32_m1 {k : Nat} (h : k < 2147483648) : ¬ n32 k = -1 := fun q => n32_nn h (by rw [q]; decide)
theorem pm_eq (O : Ok A r) {t : Nat} : ∀ k, k < aE A → pO (aC A) (-1) k = mO (aC A) (aH A) k ∨ (pO (aC A) (-1) k false + pO (aC A) (-1) k true = mO (aC A) (aH A) k false + mO (aC A) (aH A) k true ∧ Ind (fun s => evR A r s t) k) := fun k hk => by
  have hE := O.1
  have hv : ¬ n32 k = -1 := n32_m1 (by omega)
  by_cases h0 : aH A k = 0
  · left
    funext b
    unfold pO mO
    rw [if_neg hv, if_pos h0]
  · right
    refine ⟨?_, ev_ind h0⟩
    have hc := (O.2.2.1 k hk).1
    unfold pO mO
    rw [if_neg hv, if_neg hv, if_neg h0, if_neg h0, if_neg (show ¬ false = true by decide), if_pos rfl, w16 _ (by omega)]
    cases decide (aH A k = 2) <;> decide
/-- what a call with a long answer owes -/
def CasL (fL : List va_E → Option (Int32 × List va_E)) (fM : List va_E → Option (Int64 × List va_E)) (S : Ws) : Prop := ∃ k S1 b S2, fL (enc S) = some (k, enc S1) ∧ fM (enc S1) = some (b, enc S2) ∧ S2.1 59 0 = k ∧ (k = 0 → S2.2.2 74 0 = b) ∧ ∃ A r, Inv S2 A r
theorem Inv.l41 {T : Ws} (I : Inv S A r) (h : FrL 41 S T) : Inv T A r := by
  refine I.cg ?_ ?_ ?_ ?_ ?_ ?_ ?_ ?_ ?_ ?_
  · rw [h.1]
  · rw [h.1]
  · rw [h.1]
  · rw [h.1]
  · rw [h.1]
  · rw [h.1]
  · rw [h.1]
  · rw [h.1]
  · intro q _; rw [h.2.1]
  · intro q _ _; exact h.2.2 q (by omega)
/-- the model's sum, after lacks -/
theorem M_sumI (I : Inv S A r) {f : Nat → Bool} (hf : ∀ s, s < 2 ^ aE A → S.2.1 70 s = b32 (f s)) (hfu : 2000 ≤ fu) : f_M_sum fu 59 (enc S) = some (Vf (mO (aC A) (aH A)) f (aE A) 0, enc S) :=
  M_sum (fu := fu) I.1.1 I.2.2.1.1 (fun e he => (I.2.2.1.2.1 e he).1) (fun e he => ⟨(I.1.2.2.1 e he).2, (I.2.2.1.2.1 e he).2⟩) hf hfu
theorem c_odds (I : Inv S A r) (hfu : 2000 ≤ fu) : CasL (f_L_odds fu 0 74) (f_M_odds fu 59) S := by
  obtain ⟨O, D, M, T, X⟩ := id I
  have hT := D.2.2.2.2.2.1
  cases ht : aT A with
  | none =>
    rw [ht] at hT
    refine ⟨1, S, 0, sS S 59 0 1, ?_, ?_, rfl, fun h => absurd h (by decide), A, r, I.code 1⟩
    · simp only [f_L_odds, f_F_odds, Option.bind_some, is_0, gr_0_0, gr_0_1, gr_0_2, gr_0_3, gr_0_4, gr_0_5, gi_tp, pi_tp, gi_tf, pi_tf, gi_xf, pi_xf, is_1, gr_1_0, gr_1_1, gi_en, pi_en, is_4, gr_4_0, gr_4_1, gr_4_2, gr_4_3, gi_gn, pi_gn, is_9, gr_9_0, gr_9_1, gi_ts, pi_ts, gi_tw, pi_tw, gi_tc, pi_tc, is_40, gr_40_0, is_42, gr_42_0, gr_42_1, gi_dn, pi_dn, is_45, gr_45_0, gr_45_1, gi_xw, pi_xw, gi_xn, pi_xn, gi_xt, pi_xt, is_59, gi_mco, pi_mco, gi_mev, pi_mev, gr_59_2, gr_59_3, gi_mgt, pi_mgt, gr_59_5, gr_59_6, gr_59_7, gr_59_8, gi_mtp, pi_mtp, gr_59_10, gr_59_11, gr_59_12, gr_59_13, gr_59_14, gr_59_15, gi_mmy, pi_mmy, gr_59_17, gr_59_18, F_needTop (t := none) (fun _ h => by cases h) hT, hx_inl, hl_inl, if_true]
    · simp only [f_M_odds, f_M_odds_16, Option.bind_some, is_0, gr_0_0, gr_0_1, gr_0_2, gr_0_3, gr_0_4, gr_0_5, gi_tp, pi_tp, gi_tf, pi_tf, gi_xf, pi_xf, is_1, gr_1_0, gr_1_1, gi_en, pi_en, is_4, gr_4_0, gr_4_1, gr_4_2, gr_4_3, gi_gn, pi_gn, is_9, gr_9_0, gr_9_1, gi_ts, pi_ts, gi_tw, pi_tw, gi_tc, pi_tc, is_40, gr_40_0, is_42, gr_42_0, gr_42_1, gi_dn, pi_dn, is_45, gr_45_0, gr_45_1, gi_xw, pi_xw, gi_xn, pi_xn, gi_xt, pi_xt, is_59, gi_mco, pi_mco, gi_mev, pi_mev, gr_59_2, gr_59_3, gi_mgt, pi_mgt, gr_59_5, gr_59_6, gr_59_7, gr_59_8, gi_mtp, pi_mtp, gr_59_10, gr_59_11, gr_59_12, gr_59_13, gr_59_14, gr_59_15, gi_mmy, pi_mmy, gr_59_17, gr_59_18, M_lacks0 M ht (v := 1) (by decide), if_neg (show ¬ (1 : Int32) = 0 by decide)]
  | some t =>
    have htg := O.2.2.2.2.2.2.2 t ht
    have hG := O.2.1
    have hE := O.1
    rw [ht] at hT
    obtain ⟨U, F, IU, B, eU⟩ := F_fresh (fu := fu) I ht (by omega)
    obtain ⟨V, v1, v2⟩ := O_total (fu := fu) (S := U) (C := aC A) (v3 := -1) hE (show t < 12 by omega) B IU.2.1.1 (fun e he => (IU.2.1.2.1 e he).1) hfu
    rw [Vf_eq (aE A) (pm_eq O) 0] at v2
    have IV := IU.l41 v1
    obtain ⟨W, w1, w2, w3⟩ := M_lacks1 (fu := fu) (S := sL V 74 0 (Vf (mO (aC A) (aH A)) (fun s => evR A r s t) (aE A) 0)) O (IV.out _).2.2.1 ht (v := 1) hfu
    have IW := ((IV.out (Vf (mO (aC A) (aH A)) (fun s => evR A r s t) (aE A) 0)).code 0).frw w1
    refine ⟨0, sL V 74 0 (Vf (mO (aC A) (aH A)) (fun s => evR A r s t) (aE A) 0), Vf (mO (aC A) (aH A)) (fun s => evR A r s t) (aE A) 0, W, ?_, ?_, ?_, fun _ => ?_, A, r, IW⟩
    · simp only [f_L_odds, f_F_odds, Option.bind_some, is_0, gr_0_0, gr_0_1, gr_0_2, gr_0_3, gr_0_4, gr_0_5, gi_tp, pi_tp, gi_tf, pi_tf, gi_xf, pi_xf, is_1, gr_1_0, gr_1_1, gi_en, pi_en, is_4, gr_4_0, gr_4_1, gr_4_2, gr_4_3, gi_gn, pi_gn, is_9, gr_9_0, gr_9_1, gi_ts, pi_ts, gi_tw, pi_tw, gi_tc, pi_tc, is_40, gr_40_0, is_42, gr_42_0, gr_42_1, gi_dn, pi_dn, is_45, gr_45_0, gr_45_1, gi_xw, pi_xw, gi_xn, pi_xn, gi_xt, pi_xt, is_59, gi_mco, pi_mco, gi_mev, pi_mev, gr_59_2, gr_59_3, gi_mgt, pi_mgt, gr_59_5, gr_59_6, gr_59_7, gr_59_8, gi_mtp, pi_mtp, gr_59_10, gr_59_11, gr_59_12, gr_59_13, gr_59_14, gr_59_15, gi_mmy, pi_mmy, gr_59_17, gr_59_18, F_needTop (t := some t) (fun k h => by obtain rfl := Option.some.inj h; omega) hT, hx_inr, eU, v2, hl_inr, wr_out0]
    · simp only [f_M_odds, f_M_odds_16, Option.bind_some, is_0, gr_0_0, gr_0_1, gr_0_2, gr_0_3, gr_0_4, gr_0_5, gi_tp, pi_tp, gi_tf, pi_tf, gi_xf, pi_xf, is_1, gr_1_0, gr_1_1, gi_en, pi_en, is_4, gr_4_0, gr_4_1, gr_4_2, gr_4_3, gi_gn, pi_gn, is_9, gr_9_0, gr_9_1, gi_ts, pi_ts, gi_tw, pi_tw, gi_tc, pi_tc, is_40, gr_40_0, is_42, gr_42_0, gr_42_1, gi_dn, pi_dn, is_45, gr_45_0, gr_45_1, gi_xw, pi_xw, gi_xn, pi_xn, gi_xt, pi_xt, is_59, gi_mco, pi_mco, gi_mev, pi_mev, gr_59_2, gr_59_3, gi_mgt, pi_mgt, gr_59_5, gr_59_6, gr_59_7, gr_59_8, gi_mtp, pi_mtp, gr_59_10, gr_59_11, gr_59_12, gr_59_13, gr_59_14, gr_59_15, gi_mmy, pi_mmy, gr_59_17, gr_59_18, w3, if_true, M_sumI IW w2 hfu]
    · rw [w1.1]; rfl
    · rw [w1.2.1]; rfl
/-! numbers in longs -/
def l64 (a : Nat) : Int64 := Int64.ofNat a
theorem l64_add (a b : Nat) : l64 a + l64 b = l64 (a + b) := (Int64.ofNat_add a b).symm
theorem l64_mul (a b : Nat) : l64 a * l64 b = l64 (a * b) := (Int64.ofNat_mul a b).symm
theorem l64_sub {a b : Nat} (h : b ≤ a) : l64 a - l64 b = l64 (a - b) := (Int64.ofNat_sub a b h).symm
theorem l64_toInt {a : Nat} (h : a < 9223372036854775808) : (l64 a).toInt = a := Int64.toInt_ofNat_of_lt h
theorem l64_lt {a b : Nat} (ha : a < 9223372036854775808) (hb : b < 9223372036854775808) : l64 a < l64 b ↔ a < b := by
  rw [Int64.lt_iff_toInt_lt, l64_toInt ha, l64_toInt hb]; omega
theorem lb_n (a j : Nat) : lb (l64 a) j = (decide (j < 64) && a.testBit j) := by simp [lb, l64, BitVec.getLsbD_ofNat]
theorem sh_l : ∀ k, k < 41 → (1 : Int64) <<< ((n32 k).toInt64 &&& 63) = l64 (2 ^ k) := by decide +kernel
theorem c16 : ∀ c, c < 17 → ((16 : Int32) - n32 c).toInt64 = l64 (16 - c) ∧ (n32 c).toInt64 = l64 c := by decide +kernel
theorem n64_smod : ∀ k, k < 64 → ((n32 k).toInt64 &&& 63).toBitVec.smod 64 = BitVec.ofNat 64 k := by decide +kernel
theorem l64_sar {a k : Nat} (ha : a < 9223372036854775808) (hk : k < 64) : l64 a >>> ((n32 k).toInt64 &&& 63) = l64 (a / 2 ^ k) := by
  apply lb_ext; intro j hj
  rw [lb_n, ← Nat.shiftRight_eq_div_pow, Nat.testBit_shiftRight]
  unfold lb
  rw [Int64.toBitVec_shiftRight, n64_smod k hk]
  have hkk : (BitVec.ofNat 64 k).toNat = k := by simp; omega
  unfold BitVec.sshiftRight'
  rw [hkk, BitVec.getLsbD_sshiftRight]
  have h63 : (l64 a).toBitVec.msb = false := by
    rw [BitVec.msb_eq_getLsbD_last]
    have := lb_n a 63
    rw [Nat.testBit_lt_two_pow (show a < 2 ^ 63 from ha)] at this
    simpa [lb] using this
  have h1 := lb_n a (k + j)
  unfold lb at h1
  rw [show decide (64 ≤ j) = false from decide_eq_false (by omega), decide_eq_true hj]
  by_cases h : k + j < 64
  · rw [if_pos h, h1, decide_eq_true h]; rfl
  · rw [if_neg h, h63, Nat.testBit_lt_two_pow (Nat.lt_of_lt_of_le (show a < 2 ^ 63 from ha) (Nat.pow_le_pow_right (by omega) (by omega)))]; rfl
theorem l64_and {a k : Nat} : l64 a &&& (l64 (2 ^ k) - (1 : Int64)) = l64 (a % 2 ^ k) := by
  rw [show (1 : Int64) = l64 1 from rfl, l64_sub Nat.one_le_two_pow]
  apply lb_ext; intro j hj
  rw [lb_and, lb_n, lb_n, lb_n, Nat.testBit_two_pow_sub_one, Nat.testBit_mod_two_pow]
  by_cases h : j < k
  · simp [hj, h]
  · simp [hj, h]
theorem l64_32 (a : Nat) : (l64 a).toInt32 = n32 a := by
  unfold l64 n32; exact Int64.toInt32_ofNat'
def dg (w N : Nat) : Nat → Nat
  | 0 => N
  | i + 1 => dg w N i % w * 10
theorem dg_le {w N : Nat} (hw : 0 < w) (hN : N ≤ w) : ∀ i, dg w N i ≤ 10 * w
  | 0 => by show N ≤ 10 * w; omega
  | i + 1 => by
    show dg w N i % w * 10 ≤ 10 * w
    have := Nat.mod_lt (dg w N i) hw
    omega
theorem O_dec {k N pl : Nat} (hk : k < 41) (hN : N ≤ 2 ^ k) (hpl : pl < 61) (hfu : 2000 ≤ fu) : f_O_decimal_11 fu fu (n32 pl) (n32 k) (l64 N) 0 (enc S) = some (n32 (dg (2 ^ k) N pl / 2 ^ k), enc S) := by
  have hw : 2 ^ k ≤ 1099511627776 := Nat.pow_le_pow_right (n := 2) (by omega) (show k ≤ 40 by omega)
  obtain ⟨a, ha, m, e⟩ := lp0 (F := fun m i a => f_O_decimal_11 fu m (n32 pl) (n32 k) (l64 a) (n32 i) (enc S)) (I := fun i a => a = dg (2 ^ k) N i) (N := pl) (n := fu) (s := N) (by omega) rfl (fun m i a hi hI => by
    obtain rfl := hI
    have hle : ¬ n32 pl ≤ n32 i := by rw [n32_le (by omega) (by omega)]; omega
    refine ⟨_, rfl, ?_⟩
    simp only [f_O_decimal_11, if_neg hle, sh_l k hk, l64_and, show (10 : Int64) = l64 10 from rfl, l64_mul, nl_add]
    rfl)
  obtain rfl := ha
  refine Eq.trans e ?_
  have hb := dg_le (Nat.two_pow_pos k) hN pl
  simp only [f_O_decimal_11, if_pos (show n32 pl ≤ n32 pl from (n32_le (by omega) (by omega)).mpr (Nat.le_refl _)), l64_sar (show dg (2 ^ k) N pl < 9223372036854775808 by omega) (show k < 64 by omega), l64_32]
theorem M_d83 {w : Nat} {v1 v7 : Int32} {W : List va_E} (hw : 0 < w) (hwb : w < 9223372036854775808) (k68 : Int32 → Int64 → Int64 → Int32 → Int32 → List va_E → Option (Int32 × List va_E)) : ∀ (q n x d : Nat), x / w = q → q < n → x < 9223372036854775808 → f_M_digit_83 fu k68 n v1 (l64 x) (l64 w) (n32 d) v7 W = k68 v1 (l64 (x % w)) (l64 w) (n32 (d + q)) (v7 + 1) W
  | _, 0, _, _, _, h, _ => absurd h (by omega)
  | 0, n + 1, x, d, hq, _, hx => by
    have hxw : x < w := Classical.byContradiction (fun q => by have := Nat.div_pos (Nat.le_of_not_lt q) hw; omega)
    simp only [f_M_digit_83, if_pos (lg_lt.mpr ((l64_lt hx hwb).mpr hxw)), Nat.mod_eq_of_lt hxw, Nat.add_zero]
  | q + 1, n + 1, x, d, hq, hn, hx => by
    have hxw : ¬ x < w := fun h => by rw [Nat.div_eq_of_lt h] at hq; omega
    have ih := M_d83 (v1 := v1) (v7 := v7) (W := W) hw hwb k68 q n (x - w) (d + 1) (by rw [Nat.div_eq_sub_div hw (by omega)] at hq; omega) (by omega) (by omega)
    rw [← Nat.mod_eq_sub_mod (by omega), show d + 1 + q = d + (q + 1) from by omega] at ih
    simp only [f_M_digit_83, if_neg (fun h => hxw ((l64_lt hx hwb).mp (lg_lt.mp h))), l64_sub (show w ≤ x by omega), nl_add]
    exact ih
theorem M_d68 {w N pl : Nat} (hw : 0 < w) (hwb : w ≤ 1099511627776) (hN : N ≤ w) (hpl : pl < 61) (hfu : 2000 ≤ fu) : f_M_digit_68 fu fu (n32 pl) (l64 (N % w)) (l64 w) (n32 (N / w)) 0 (enc S) = some (n32 (dg w N pl / w), enc S) := by
  obtain ⟨a, ha, m, e⟩ := lp0 (F := fun m i a => f_M_digit_68 fu m (n32 pl) (l64 (a % w)) (l64 w) (n32 (a / w)) (n32 i) (enc S)) (I := fun i a => a = dg w N i) (N := pl) (n := fu) (s := N) (by omega) rfl (fun m i a hi hI => by
    obtain rfl := hI
    have hle : ¬ n32 pl ≤ n32 i := by rw [n32_le (by omega) (by omega)]; omega
    have hm := Nat.mod_lt (dg w N i) hw
    refine ⟨_, rfl, ?_⟩
    have hd : 10 * (dg w N i % w) / w < 10 := (Nat.div_lt_iff_lt_mul hw).mpr (by omega)
    have h1 := M_d83 (fu := fu) (v1 := n32 pl) (v7 := n32 i) (W := enc S) hw (by omega) (f_M_digit_68 fu m) (10 * (dg w N i % w) / w) fu (10 * (dg w N i % w)) 0 rfl (by omega) (by omega)
    rw [Nat.zero_add] at h1
    simp only [f_M_digit_68, if_neg hle, show (10 : Int64) = l64 10 from rfl, l64_mul]
    refine Eq.trans h1 ?_
    rw [nl_add]
    show _ = f_M_digit_68 fu m (n32 pl) (l64 (dg w N i % w * 10 % w)) (l64 w) (n32 (dg w N i % w * 10 / w)) (n32 (i + 1)) (enc S)
    rw [Nat.mul_comm 10])
  obtain rfl := ha
  refine Eq.trans e ?_
  simp only [f_M_digit_68, if_pos (show n32 pl ≤ n32 pl from (n32_le (by omega) (by omega)).mpr (Nat.le_refl _))]
def VN (C : Nat → Nat) (f : Nat → Bool) : Nat → Nat → Nat
  | 0, j => if f j = true then 1 else 0
  | e + 1, j => (16 - C e) * VN C f e (2 * j) + C e * VN C f e (2 * j + 1)
theorem Vf_VN {C : Nat → Nat} {f : Nat → Bool} : ∀ (e j : Nat), (∀ k, k < e → C k ≤ 16) → e ≤ 10 → Vf (pO C (-1)) f e j = l64 (VN C f e j) ∧ VN C f e j ≤ 16 ^ e
  | 0, j, _, _ => by
    show (if f j = true then (1 : Int64) else 0) = l64 (if f j = true then 1 else 0) ∧ (if f j = true then 1 else 0) ≤ 1
    cases f j
    · exact ⟨rfl, by simp⟩
    · exact ⟨rfl, by simp⟩
  | e + 1, j, hC, he => by
    obtain ⟨a1, a2⟩ := Vf_VN (C := C) (f := f) e (2 * j) (fun k hk => hC k (by omega)) (by omega)
    obtain ⟨b1, b2⟩ := Vf_VN (C := C) (f := f) e (2 * j + 1) (fun k hk => hC k (by omega)) (by omega)
    have hc := hC e (by omega)
    obtain ⟨q1, q2⟩ := c16 (C e) (by omega)
    constructor
    · show pO C (-1) e false * Vf (pO C (-1)) f e (2 * j) + pO C (-1) e true * Vf (pO C (-1)) f e (2 * j + 1) = l64 ((16 - C e) * VN C f e (2 * j) + C e * VN C f e (2 * j + 1))
      have p1 : pO C (-1) e false = l64 (16 - C e) := by
        unfold pO; rw [if_neg (n32_m1 (by omega)), if_neg (by decide)]; exact q1
      have p2 : pO C (-1) e true = l64 (C e) := by
        unfold pO; rw [if_neg (n32_m1 (by omega)), if_pos rfl]; exact q2
      rw [p1, p2, a1, b1, l64_mul, l64_mul, l64_add]
    · show (16 - C e) * VN C f e (2 * j) + C e * VN C f e (2 * j + 1) ≤ 16 ^ (e + 1)
      have h1 := Nat.mul_le_mul_left (16 - C e) a2
      have h2 := Nat.mul_le_mul_left (C e) b2
      have h3 : (16 - C e) * 16 ^ e + C e * 16 ^ e = 16 ^ (e + 1) := by
        rw [← Nat.add_mul, show 16 - C e + C e = 16 from by omega, Nat.pow_succ, Nat.mul_comm]
      omega
theorem c_digit (I : Inv S A r) (v : Int32) (hfu : 2000 ≤ fu) : Cas (f_L_digit fu 0 v 74) (f_M_digit fu 59 v) S := by
  obtain ⟨O, D, M, T, X⟩ := id I
  have hT := D.2.2.2.2.2.1
  cases hv : vd 61 v with
  | false =>
    refine Cas.no I (k := 1) (by decide) ?_ ?_
    · simp only [f_L_digit, f_F_digit, f_F_digit_10, Option.bind_some, is_0, gr_0_0, gr_0_1, gr_0_2, gr_0_3, gr_0_4, gr_0_5, gi_tp, pi_tp, gi_tf, pi_tf, gi_xf, pi_xf, is_1, gr_1_0, gr_1_1, gi_en, pi_en, is_4, gr_4_0, gr_4_1, gr_4_2, gr_4_3, gi_gn, pi_gn, is_9, gr_9_0, gr_9_1, gi_ts, pi_ts, gi_tw, pi_tw, gi_tc, pi_tc, is_40, gr_40_0, is_42, gr_42_0, gr_42_1, gi_dn, pi_dn, is_45, gr_45_0, gr_45_1, gi_xw, pi_xw, gi_xn, pi_xn, gi_xt, pi_xt, is_59, gi_mco, pi_mco, gi_mev, pi_mev, gr_59_2, gr_59_3, gi_mgt, pi_mgt, gr_59_5, gr_59_6, gr_59_7, gr_59_8, gi_mtp, pi_mtp, gr_59_10, gr_59_11, gr_59_12, gr_59_13, gr_59_14, gr_59_15, gi_mmy, pi_mmy, gr_59_17, gr_59_18]
      rw [vd_if2 (k := 60) (by omega), if_neg (by rw [hv]; decide)]; rfl
    · simp only [f_M_digit, f_M_digit_10, Option.bind_some, is_0, gr_0_0, gr_0_1, gr_0_2, gr_0_3, gr_0_4, gr_0_5, gi_tp, pi_tp, gi_tf, pi_tf, gi_xf, pi_xf, is_1, gr_1_0, gr_1_1, gi_en, pi_en, is_4, gr_4_0, gr_4_1, gr_4_2, gr_4_3, gi_gn, pi_gn, is_9, gr_9_0, gr_9_1, gi_ts, pi_ts, gi_tw, pi_tw, gi_tc, pi_tc, is_40, gr_40_0, is_42, gr_42_0, gr_42_1, gi_dn, pi_dn, is_45, gr_45_0, gr_45_1, gi_xw, pi_xw, gi_xn, pi_xn, gi_xt, pi_xt, is_59, gi_mco, pi_mco, gi_mev, pi_mev, gr_59_2, gr_59_3, gi_mgt, pi_mgt, gr_59_5, gr_59_6, gr_59_7, gr_59_8, gi_mtp, pi_mtp, gr_59_10, gr_59_11, gr_59_12, gr_59_13, gr_59_14, gr_59_15, gi_mmy, pi_mmy, gr_59_17, gr_59_18]
      rw [vd_if2 (k := 60) (by omega), if_neg (by rw [hv]; decide)]
  | true =>
    obtain ⟨pl, hpl, rfl⟩ := vd_of (by omega) hv
    have eL : f_F_digit fu 0 (n32 pl) (enc S) = ((hp_is (enc S) 0 6).bind fun _ => (hx_bd (f_F_needTop fu 0 (enc S)) fun _ u3 => ((hp_is u3 0 6).bind fun _ => ((f_F_freshenTruth fu 0 u3).bind fun r4 => ((hp_gr r4 0 6 3).bind fun q5 => ((hp_gr r4 0 6 3).bind fun q6 => ((hp_gr r4 0 6 2).bind fun q7 => ((hp_gr r4 0 6 0).bind fun q8 => ((hp_is r4 q6 3).bind fun _ => ((f_O_total fu q6 q7 q8 (-1 : Int32) r4).bind fun r9 => ((hp_gr r9.2 0 6 0).bind fun q10 => ((hp_gi r9.2 q10 1 2).bind fun x11 => ((hp_is r9.2 q5 3).bind fun _ => ((f_O_decimal fu q5 r9.1 x11 (n32 pl) r9.2).bind fun r12 => (some (Sum.inr r12.1, r12.2)))))))))))))))) := by
      unfold f_F_digit
      rw [vd_if2 (k := 60) (by omega), if_pos hv]
    cases ht : aT A with
    | none =>
      rw [ht] at hT
      refine Cas.no I (k := 2) (by decide) ?_ ?_
      · simp only [f_L_digit, eL, Option.bind_some, is_0, gr_0_0, gr_0_1, gr_0_2, gr_0_3, gr_0_4, gr_0_5, gi_tp, pi_tp, gi_tf, pi_tf, gi_xf, pi_xf, is_1, gr_1_0, gr_1_1, gi_en, pi_en, is_4, gr_4_0, gr_4_1, gr_4_2, gr_4_3, gi_gn, pi_gn, is_9, gr_9_0, gr_9_1, gi_ts, pi_ts, gi_tw, pi_tw, gi_tc, pi_tc, is_40, gr_40_0, is_42, gr_42_0, gr_42_1, gi_dn, pi_dn, is_45, gr_45_0, gr_45_1, gi_xw, pi_xw, gi_xn, pi_xn, gi_xt, pi_xt, is_59, gi_mco, pi_mco, gi_mev, pi_mev, gr_59_2, gr_59_3, gi_mgt, pi_mgt, gr_59_5, gr_59_6, gr_59_7, gr_59_8, gi_mtp, pi_mtp, gr_59_10, gr_59_11, gr_59_12, gr_59_13, gr_59_14, gr_59_15, gi_mmy, pi_mmy, gr_59_17, gr_59_18, F_needTop (t := none) (fun _ h => by cases h) hT, hx_inl, hl_inl]; rfl
      · unfold f_M_digit
        rw [vd_if2 (k := 60) (by omega), if_pos hv]
        simp only [Option.bind_some, is_0, gr_0_0, gr_0_1, gr_0_2, gr_0_3, gr_0_4, gr_0_5, gi_tp, pi_tp, gi_tf, pi_tf, gi_xf, pi_xf, is_1, gr_1_0, gr_1_1, gi_en, pi_en, is_4, gr_4_0, gr_4_1, gr_4_2, gr_4_3, gi_gn, pi_gn, is_9, gr_9_0, gr_9_1, gi_ts, pi_ts, gi_tw, pi_tw, gi_tc, pi_tc, is_40, gr_40_0, is_42, gr_42_0, gr_42_1, gi_dn, pi_dn, is_45, gr_45_0, gr_45_1, gi_xw, pi_xw, gi_xn, pi_xn, gi_xt, pi_xt, is_59, gi_mco, pi_mco, gi_mev, pi_mev, gr_59_2, gr_59_3, gi_mgt, pi_mgt, gr_59_5, gr_59_6, gr_59_7, gr_59_8, gi_mtp, pi_mtp, gr_59_10, gr_59_11, gr_59_12, gr_59_13, gr_59_14, gr_59_15, gi_mmy, pi_mmy, gr_59_17, gr_59_18, M_lacks0 M ht (v := 2) (by decide), if_neg (show ¬ (1 : Int32) = 0 by decide)]
    | some t =>
      have htg := O.2.2.2.2.2.2.2 t ht
      have hG := O.2.1
      have hE := O.1
      rw [ht] at hT
      obtain ⟨U, F, IU, B, eU⟩ := F_fresh (fu := fu) I ht (by omega)
      obtain ⟨V, v1, v2⟩ := O_total (fu := fu) (S := U) (C := aC A) (v3 := -1) hE (show t < 12 by omega) B IU.2.1.1 (fun e he => (IU.2.1.2.1 e he).1) hfu
      obtain ⟨n1, n2⟩ := Vf_VN (C := aC A) (f := fun s => evR A r s t) (aE A) 0 (fun k hk => (O.2.2.1 k hk).1) hE
      have hVm : Vf (mO (aC A) (aH A)) (fun s => evR A r s t) (aE A) 0 = l64 (VN (aC A) (fun s => evR A r s t) (aE A) 0) := by rw [← Vf_eq (aE A) (pm_eq O) 0]; exact n1
      rw [n1] at v2
      rw [show (16 : Nat) = 2 ^ 4 from rfl, ← Nat.pow_mul] at n2
      generalize VN (aC A) (fun s => evR A r s t) (aE A) 0 = N at *
      have hw : 2 ^ (4 * aE A) ≤ 1099511627776 := Nat.pow_le_pow_right (n := 2) (by omega) (show 4 * aE A ≤ 40 by omega)
      have hw0 := Nat.two_pow_pos (4 * aE A)
      have IV := IU.l41 v1
      have e5 := O_dec (fu := fu) (S := V) (k := 4 * aE A) (by omega) n2 hpl hfu
      have e6 := fun Z : Ws => M_d68 (fu := fu) (S := Z) hw0 hw n2 hpl hfu
      have hbd := dg_le hw0 n2 pl
      obtain ⟨W, w1, w2, w3⟩ := M_lacks1 (fu := fu) (S := sL V 74 0 (n32 (dg (2 ^ (4 * aE A)) N pl / 2 ^ (4 * aE A))).toInt64) O (IV.out _).2.2.1 ht (v := 2) hfu
      have IW := ((IV.out (n32 (dg (2 ^ (4 * aE A)) N pl / 2 ^ (4 * aE A))).toInt64).code 0).frw w1
      have e7 := M_sumI (fu := fu) IW w2 hfu
      rw [hVm] at e7
      refine ⟨0, sL V 74 0 (n32 (dg (2 ^ (4 * aE A)) N pl / 2 ^ (4 * aE A))).toInt64, n32 (dg (2 ^ (4 * aE A)) N pl / 2 ^ (4 * aE A)), W, ?_, ?_, ?_, fun _ => ?_, A, r, IW⟩
      · simp only [f_L_digit, eL, Option.bind_some, is_0, gr_0_0, gr_0_1, gr_0_2, gr_0_3, gr_0_4, gr_0_5, gi_tp, pi_tp, gi_tf, pi_tf, gi_xf, pi_xf, is_1, gr_1_0, gr_1_1, gi_en, pi_en, is_4, gr_4_0, gr_4_1, gr_4_2, gr_4_3, gi_gn, pi_gn, is_9, gr_9_0, gr_9_1, gi_ts, pi_ts, gi_tw, pi_tw, gi_tc, pi_tc, is_40, gr_40_0, is_42, gr_42_0, gr_42_1, gi_dn, pi_dn, is_45, gr_45_0, gr_45_1, gi_xw, pi_xw, gi_xn, pi_xn, gi_xt, pi_xt, is_59, gi_mco, pi_mco, gi_mev, pi_mev, gr_59_2, gr_59_3, gi_mgt, pi_mgt, gr_59_5, gr_59_6, gr_59_7, gr_59_8, gi_mtp, pi_mtp, gr_59_10, gr_59_11, gr_59_12, gr_59_13, gr_59_14, gr_59_15, gi_mmy, pi_mmy, gr_59_17, gr_59_18, F_needTop (t := some t) (fun k h => by obtain rfl := Option.some.inj h; omega) hT, hx_inr, eU, v2, IV.2.1.1, f_O_decimal, ln_mul, e5, hl_inr, wr_out0]
      · unfold f_M_digit
        rw [vd_if2 (k := 60) (by omega), if_pos hv]
        simp only [Option.bind_some, is_0, gr_0_0, gr_0_1, gr_0_2, gr_0_3, gr_0_4, gr_0_5, gi_tp, pi_tp, gi_tf, pi_tf, gi_xf, pi_xf, is_1, gr_1_0, gr_1_1, gi_en, pi_en, is_4, gr_4_0, gr_4_1, gr_4_2, gr_4_3, gi_gn, pi_gn, is_9, gr_9_0, gr_9_1, gi_ts, pi_ts, gi_tw, pi_tw, gi_tc, pi_tc, is_40, gr_40_0, is_42, gr_42_0, gr_42_1, gi_dn, pi_dn, is_45, gr_45_0, gr_45_1, gi_xw, pi_xw, gi_xn, pi_xn, gi_xt, pi_xt, is_59, gi_mco, pi_mco, gi_mev, pi_mev, gr_59_2, gr_59_3, gi_mgt, pi_mgt, gr_59_5, gr_59_6, gr_59_7, gr_59_8, gi_mtp, pi_mtp, gr_59_10, gr_59_11, gr_59_12, gr_59_13, gr_59_14, gr_59_15, gi_mmy, pi_mmy, gr_59_17, gr_59_18, w3, if_true, e7, IW.2.2.1.1, ln_mul, sh_l (4 * aE A) (by omega), f_M_digit_54]
        by_cases hN : N < 2 ^ (4 * aE A)
        · rw [if_pos (lg_lt.mpr ((l64_lt (by omega) (by omega)).mpr hN))]
          have := e6 W
          rw [Nat.mod_eq_of_lt hN, Nat.div_eq_of_lt hN] at this
          rw [show l64 N - (0 : Int32).toInt64 * l64 (2 ^ (4 * aE A)) = l64 N from by
            rw [show (0 : Int32).toInt64 = 0 from by decide, Int64.zero_mul, Int64.sub_zero]]
          exact this
        · rw [if_neg (fun h => hN ((l64_lt (by omega) (by omega)).mp (lg_lt.mp h)))]
          have hNe : N = 2 ^ (4 * aE A) := by omega
          have := e6 W
          rw [hNe, Nat.mod_self, Nat.div_self hw0] at this
          rw [hNe, show (1 : Int32).toInt64 = 1 from by decide, Int64.one_mul, Int64.sub_self]
          exact this
      · rw [w1.1]; rfl
      · rw [w1.2.1]; rfl
end
