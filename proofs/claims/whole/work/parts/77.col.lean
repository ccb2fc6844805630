/-! the desk's collect -/
section
variable {fu : Nat} {S : Ws} {f : Nat → Bool} {n : Nat}
theorem n32_xor (a b : Nat) : n32 a ^^^ n32 b = n32 (a ^^^ b) := by
  apply bt_ext; intro j hj
  rw [bt_xor, bt_n, bt_n, bt_n, Nat.testBit_xor, decide_eq_true hj]
  cases a.testBit j <;> cases b.testBit j <;> rfl
theorem lb_shl {y : Int64} {k j : Nat} (hk : k < 64) : lb (y <<< ((n32 k).toInt64 &&& 63)) j = (decide (j < 64) && !decide (j < k) && lb y (j - k)) := by
  unfold lb
  rw [Int64.toBitVec_shiftLeft, n64_smod k hk]
  have hkk : (BitVec.ofNat 64 k).toNat = k := by simp; omega
  rw [BitVec.shiftLeft_eq', hkk, BitVec.getLsbD_shiftLeft]
theorem fl6 : ∀ e, e < 6 → ∀ b, b < 64 → ((b.testBit e = false → b ^^^ 2 ^ e = 2 ^ e + b ∧ 2 ^ e + b < 64 ∧ (2 ^ e + b).testBit e = true) ∧ (b.testBit e = true → b ^^^ 2 ^ e = b - 2 ^ e ∧ 2 ^ e ≤ b ∧ (2 ^ e + b).testBit e = false)) := by decide +kernel
theorem lb_ge {y : Int64} {j : Nat} (h : 64 ≤ j) : lb y j = false := BitVec.getLsbD_of_ge _ _ h
theorem wo_c (h : n ≤ 10) : (n ≤ 6 ∧ wo n = 1) ∨ (6 ≤ n ∧ 64 * wo n = 2 ^ n) := by
  unfold wo
  by_cases h6 : n ≤ 6
  · left
    have := Nat.pow_le_pow_right (n := 2) (by omega) h6
    exact ⟨h6, by rw [if_neg (by omega)]⟩
  · right
    obtain ⟨k, rfl⟩ : ∃ k, n = k + 7 := ⟨n - 7, by omega⟩
    have := Nat.two_pow_pos k
    rw [Nat.pow_add]
    refine ⟨by omega, ?_⟩
    rw [if_pos (by omega)]; omega
theorem fl_lt {s e : Nat} (hn : n ≤ 10) (he : e < n) (hs : s < 64 * wo n) : s ^^^ 2 ^ e < 64 * wo n := by
  rcases wo_c hn with ⟨h1, h2⟩ | ⟨h1, h2⟩
  · rw [h2] at hs ⊢
    exact Nat.xor_lt_two_pow (n := 6) hs (Nat.pow_lt_pow_right (by omega) (by omega))
  · rw [h2] at hs ⊢
    exact Nat.xor_lt_two_pow hs (Nat.pow_lt_pow_right (by omega) he)
/-- a bit of a row -/
def rb (S : Ws) (d s : Nat) : Bool := lb (S.2.2 (48 + d) (s / 64)) (s % 64)
theorem X_flip {d e w : Nat} (hd : d < 11) (he : e < 10) (hw : w < 16) : ∃ y, f_X_flipped fu 45 (48 + d) (n32 w) (n32 e) (enc S) = some (y, enc S) ∧ ∀ b, b < 64 → lb y b = rb S d ((64 * w + b) ^^^ 2 ^ e) := by
  have hdiv : ∀ b, b < 64 → ((64 * w + b) ^^^ 2 ^ e) / 64 = w ^^^ 2 ^ e / 64 := fun b hb => by
    have := Nat.xor_div_two_pow (a := 64 * w + b) (b := 2 ^ e) (n := 6)
    rw [show (2 : Nat) ^ 6 = 64 from rfl, show (64 * w + b) / 64 = w from by omega] at this
    exact this
  have hmod : ∀ b, b < 64 → ((64 * w + b) ^^^ 2 ^ e) % 64 = b ^^^ 2 ^ e % 64 := fun b hb => by
    have := Nat.xor_mod_two_pow (a := 64 * w + b) (b := 2 ^ e) (n := 6)
    rw [show (2 : Nat) ^ 6 = 64 from rfl, show (64 * w + b) % 64 = b from by omega] at this
    exact this
  by_cases h6 : e < 6
  · have h32 : 2 ^ e ≤ 32 := Nat.pow_le_pow_right (n := 2) (by omega) (show e ≤ 5 by omega)
    have hok : ¬ (n32 e < 0 ∨ 6 ≤ e) := fun q => q.elim (n32_nn (by omega)) (fun q => by omega)
    refine ⟨((S.2.2 (48 + d) w &&& tabON e).toUInt64 >>> ((n32 (2 ^ e)).toInt64.toUInt64 &&& Int64.toUInt64 63)).toInt64 ||| ((S.2.2 (48 + d) w <<< ((n32 (2 ^ e)).toInt64 &&& 63)) &&& tabON e), ?_, fun b hb => ?_⟩
    · simp only [f_X_flipped, if_pos ((nl_lt (show e < 2147483648 by omega) (show 6 < 2147483648 by omega)).mpr h6), n32_c (show e < 2147483648 by omega), if_pos hok, rd_lv hd hw, n32_shl (show e < 31 by omega), Option.bind_some]
    · rw [lb_or, lb_shr (by omega), lb_and, lb_and, lb_shl (by omega), on_b e h6 b hb]
      unfold rb
      rw [hdiv b hb, hmod b hb, show 2 ^ e / 64 = 0 from Nat.div_eq_of_lt (by omega), show 2 ^ e % 64 = 2 ^ e from Nat.mod_eq_of_lt (by omega), Nat.xor_zero]
      obtain ⟨q1, q2⟩ := fl6 e h6 b hb
      cases hbe : b.testBit e with
      | false =>
        obtain ⟨a1, a2, a3⟩ := q1 hbe
        rw [a1, on_b e h6 _ a2, a3]; simp
      | true =>
        obtain ⟨a1, a2, a3⟩ := q2 hbe
        rw [a1, decide_eq_true hb, decide_eq_false (show ¬ b < 2 ^ e by omega)]
        by_cases hge : 64 ≤ 2 ^ e + b
        · rw [lb_ge hge]; simp
        · rw [on_b e h6 _ (by omega), a3]; simp
  · have h16 : 2 ^ (e - 6) < 16 := Nat.pow_lt_pow_right (a := 2) (n := 4) (by omega) (by omega)
    have hx : w ^^^ 2 ^ (e - 6) < 16 := Nat.xor_lt_two_pow (n := 4) hw h16
    have hpe : 2 ^ e = 64 * 2 ^ (e - 6) := by
      rw [show (64 : Nat) = 2 ^ 6 from rfl, ← Nat.pow_add, show 6 + (e - 6) = e from by omega]
    refine ⟨S.2.2 (48 + d) (w ^^^ 2 ^ (e - 6)), ?_, fun b hb => ?_⟩
    · simp only [f_X_flipped, if_neg (fun q => h6 ((nl_lt (show e < 2147483648 by omega) (show 6 < 2147483648 by omega)).mp q)), nl_sub (show 6 ≤ e by omega), n32_shl (show e - 6 < 31 by omega), n32_xor, rd_lv hd hx, Option.bind_some]
    · unfold rb
      rw [hdiv b hb, hmod b hb, hpe, show 64 * 2 ^ (e - 6) / 64 = 2 ^ (e - 6) from by omega, show 64 * 2 ^ (e - 6) % 64 = 0 from by omega, Nat.xor_zero]
theorem X_all {kept : Nat} (hfu : 2000 ≤ fu) : ∃ y, f_X_allKeptOrOff fu 45 (n32 kept) (enc S) = some (y, enc S) ∧ ∀ b, b < 64 → (lb y b = true ↔ ∀ e, e < 6 → b.testBit e = true → kept.testBit e = true) := by
  obtain ⟨y, hy, m, e1⟩ := lp0 (F := fun m e y => f_X_allKeptOrOff_7 fu m (n32 kept) y (n32 e) (enc S)) (I := fun e y => ∀ b, b < 64 → (lb y b = true ↔ ∀ e', e' < e → b.testBit e' = true → kept.testBit e' = true)) (N := 6) (n := fu) (s := (-1 : Int64)) (by omega) (fun b hb => ⟨fun _ e' h => absurd h (by omega), fun _ => lb_m1 b hb⟩) (fun m e y he hI => by
    have hle : ¬ (6 : Int32) ≤ n32 e := by rw [ln_le (by omega) (by omega)]; omega
    have hbk : bt (n32 kept) e = kept.testBit e := by rw [bt_n]; simp; omega
    have hok : ¬ (n32 e < 0 ∨ 6 ≤ e) := fun q => q.elim (n32_nn (by omega)) (fun q => by omega)
    cases hk : kept.testBit e with
    | true =>
      have hts : ¬ ((n32 kept >>> (n32 e &&& 31)) &&& (1 : Int32)) = 0 := fun q => by
        rw [ts_0 (show e < 32 by omega), hbk, hk] at q; cases q
      refine ⟨y, fun b hb => (hI b hb).trans ⟨fun h e' he' hb' => ?_, fun h e' he' => h e' (by omega)⟩, ?_⟩
      · by_cases hee : e' = e
        · rw [hee]; exact hk
        · exact h e' (by omega) hb'
      · simp only [f_X_allKeptOrOff_7, f_X_allKeptOrOff_36, if_neg hle, if_neg hts, nl_add]
    | false =>
      have hts : ((n32 kept >>> (n32 e &&& 31)) &&& (1 : Int32)) = 0 := (ts_0 (show e < 32 by omega)).mpr (hbk.trans hk)
      refine ⟨y &&& (tabON e ^^^ (-1 : Int64)), fun b hb => ?_, ?_⟩
      · rw [lb_and, lb_xor, lb_m1 b hb, on_b e he b hb, Bool.and_eq_true, hI b hb]
        constructor
        · rintro ⟨h1, h2⟩ e' he' hb'
          by_cases hee : e' = e
          · rw [hee] at hb'; rw [hb'] at h2; exact absurd h2 (by decide)
          · exact h1 e' (by omega) hb'
        · intro h
          refine ⟨fun e' he' => h e' (by omega), ?_⟩
          cases hb' : b.testBit e with
          | false => rfl
          | true => have := h e (by omega) hb'; rw [hk] at this; cases this
      · simp only [f_X_allKeptOrOff_7, f_X_allKeptOrOff_36, if_neg hle, if_pos hts, n32_c (show e < 2147483648 by omega), if_pos hok, nl_add])
  refine ⟨y, ?_, hy⟩
  refine Eq.trans e1 ?_
  simp only [f_X_allKeptOrOff_7, if_pos (show (6 : Int32) ≤ n32 6 by decide)]
theorem X_prs12 {kept w : Nat} (hn : n ≤ 10) (hk : kept < 2 ^ n) (hw : w < 16) : ∀ (m nf e : Nat) (y : Int64), e + m = 10 → m < nf → ∃ y', f_X_primeSettings_12 fu nf 45 (n32 kept) (n32 w) y (n32 e) (enc S) = some (y', enc S) ∧ ∀ b, b < 64 → (lb y' b = true ↔ (lb y b = true ∧ ∀ e', e ≤ e' → e' < 10 → kept.testBit e' = true → rb S 0 ((64 * w + b) ^^^ 2 ^ e') = false))
  | _, 0, _, _, _, h => absurd h (by omega)
  | 0, nf + 1, e, y, he, _ => by
    obtain rfl : e = 10 := by omega
    refine ⟨y, ?_, fun b hb => ⟨fun h => ⟨h, fun e' h1 h2 => absurd h1 (by omega)⟩, fun h => h.1⟩⟩
    simp only [f_X_primeSettings_12, f_X_primeSettings_60, if_pos (show (10 : Int32) ≤ n32 10 by decide)]
  | m + 1, nf + 1, e, y, he, hnf => by
    have hle : ¬ (10 : Int32) ≤ n32 e := by rw [ln_le (by omega) (by omega)]; omega
    by_cases h0 : y = 0
    · refine ⟨y, ?_, fun b hb => ⟨fun h => (by rw [h0, lb_0] at h; cases h), fun h => h.1⟩⟩
      simp only [f_X_primeSettings_12, f_X_primeSettings_60, if_neg hle, if_pos (lg_0.mpr h0)]
    · have h0' : ¬ lg_cmp y 0 = 0 := fun q => h0 (lg_0.mp q)
      have hbk : bt (n32 kept) e = kept.testBit e := by rw [bt_n]; simp; omega
      cases hkb : kept.testBit e with
      | false =>
        have hts : ((n32 kept >>> (n32 e &&& 31)) &&& (1 : Int32)) = 0 := (ts_0 (show e < 32 by omega)).mpr (hbk.trans hkb)
        obtain ⟨y', a1, a2⟩ := X_prs12 hn hk hw m nf (e + 1) y (by omega) (by omega)
        refine ⟨y', ?_, fun b hb => (a2 b hb).trans ⟨fun h => ⟨h.1, fun e' h1 h2 h3 => ?_⟩, fun h => ⟨h.1, fun e' h1 => h.2 e' (by omega)⟩⟩⟩
        · simp only [f_X_primeSettings_12, f_X_primeSettings_54, if_neg hle, if_neg h0', if_pos hts, nl_add]
          exact a1
        · by_cases hee : e' = e
          · rw [hee, hkb] at h3; cases h3
          · exact h.2 e' (by omega) h2 h3
      | true =>
        have hts : ¬ ((n32 kept >>> (n32 e &&& 31)) &&& (1 : Int32)) = 0 := fun q => by
          rw [ts_0 (show e < 32 by omega), hbk, hkb] at q; cases q
        obtain ⟨z, z1, z2⟩ := X_flip (fu := fu) (S := S) (d := 0) (e := e) (w := w) (by omega) (by omega) hw
        obtain ⟨y', a1, a2⟩ := X_prs12 hn hk hw m nf (e + 1) (y &&& (z ^^^ (-1 : Int64))) (by omega) (by omega)
        refine ⟨y', ?_, fun b hb => (a2 b hb).trans ?_⟩
        · have hra : hp_ra (enc S) 47 (0 : Int32) = some (48 + 0) := ra_lv (i := 0) (by omega)
          simp only [f_X_primeSettings_12, f_X_primeSettings_54, Option.bind_some, is_0, gr_0_0, gr_0_1, gr_0_2, gr_0_3, gr_0_4, gr_0_5, gi_tp, pi_tp, gi_tf, pi_tf, gi_xf, pi_xf, is_1, gr_1_0, gr_1_1, gi_en, pi_en, is_4, gr_4_0, gr_4_1, gr_4_2, gr_4_3, gi_gn, pi_gn, is_9, gr_9_0, gr_9_1, gi_ts, pi_ts, gi_tw, pi_tw, gi_tc, pi_tc, is_40, gr_40_0, is_42, gr_42_0, gr_42_1, gi_dn, pi_dn, is_45, gr_45_0, gr_45_1, gi_xw, pi_xw, gi_xn, pi_xn, gi_xt, pi_xt, is_59, gi_mco, pi_mco, gi_mev, pi_mev, gr_59_2, gr_59_3, gi_mgt, pi_mgt, gr_59_5, gr_59_6, gr_59_7, gr_59_8, gi_mtp, pi_mtp, gr_59_10, gr_59_11, gr_59_12, gr_59_13, gr_59_14, gr_59_15, gi_mmy, pi_mmy, gr_59_17, gr_59_18, if_neg hle, if_neg h0', if_neg hts, hra, z1, nl_add]
          exact a1
        · rw [lb_and, lb_xor, lb_m1 b hb, z2 b hb, Bool.and_eq_true]
          constructor
          · rintro ⟨⟨h1, h2⟩, h3⟩
            refine ⟨h1, fun e' q1 q2 q3 => ?_⟩
            by_cases hee : e' = e
            · rw [hee]
              cases hq : rb S 0 ((64 * w + b) ^^^ 2 ^ e) with
              | false => rfl
              | true => rw [hq] at h2; exact absurd h2 (by decide)
            · exact h3 e' (by omega) q2 q3
          · rintro ⟨h1, h2⟩
            exact ⟨⟨h1, by rw [h2 e (by omega) (by omega) hkb]; rfl⟩, fun e' q1 => h2 e' (by omega)⟩
theorem pr_leaf {kept s : Nat} (hk : kept < 2 ^ n) (ho : ∀ e, s.testBit e = true → kept.testBit e = true) : isPr f n kept s ↔ (cau f n kept s ∧ ∀ e, e < n → kept.testBit e = true → ¬ cau f n kept (s ^^^ 2 ^ e)) := by
  constructor
  · intro h; exact ⟨h.2.2.1, fun e he hb hc => h.2.2.2 e he hb ((cau_drop hb).mpr ⟨h.2.2.1, hc⟩)⟩
  · intro h; exact ⟨hk, ho, h.1, fun e he hb hc => h.2 e he hb ((cau_drop hb).mp hc).2⟩
theorem X_collect {kept : Nat} {Fnd : Nat → Prop} (hn : n ≤ 10) (hk : kept < 2 ^ n) (hR : ∀ s, s < 64 * wo n → (rb S 0 s = true ↔ cau f n kept s)) (hW : S.1 45 2 = n32 (wo n)) (hT : TS (PrK f n) S Fnd) (hFp : ∀ k, Fnd k → PrK f n k) (hnew : ∀ on, isPr f n kept on → ¬ Fnd (keyN kept on)) (hfu : 2000 ≤ fu) : ∃ T, TS (PrK f n) T (fun x => Fnd x ∨ ∃ on, isPr f n kept on ∧ x = keyN kept on) ∧ FrX S T ∧ T.2.2 = S.2.2 ∧ f_X_collect fu 45 (n32 kept) (enc S) = some (enc T) := by
  have hw16 := (wo_le hn).1
  have hkp : kept < 1024 := Nat.lt_of_lt_of_le hk (p10 hn)
  obtain ⟨L, eL, hL⟩ := X_all (fu := fu) (S := S) (kept := kept) hfu
  obtain ⟨T, ⟨t1, t2, t3⟩, m, e1⟩ := lp0 (F := fun m w T => f_X_collect_9 fu m 45 (n32 kept) L (n32 w) (enc T)) (I := fun w T => TS (PrK f n) T (fun x => Fnd x ∨ ∃ on, on / 64 < w ∧ isPr f n kept on ∧ x = keyN kept on) ∧ FrX S T ∧ T.2.2 = S.2.2) (N := wo n) (n := fu) (s := S) (by omega) ⟨hT.cg (fun k => ⟨Or.inl, fun q => q.elim id (fun ⟨on, h, _⟩ => absurd h (by omega))⟩), FrX.rf, rfl⟩ (fun m w T hw hI => by
    obtain ⟨h1, h2, h3⟩ := hI
    have hle : ¬ n32 (wo n) ≤ n32 w := by rw [n32_le (by omega) (by omega)]; omega
    have hWT : T.1 45 2 = n32 (wo n) := by rw [h2.2.1]; exact hW
    have hsub : ∀ b, b < 64 → ((∀ e, (64 * w + b).testBit e = true → kept.testBit e = true) ↔ ((∀ e, e < 32 → (w * 64).testBit e = true → kept.testBit e = true) ∧ ∀ e, e < 6 → b.testBit e = true → kept.testBit e = true)) := fun b hb => by
      have hx : ∀ e, (w * 64).testBit e = if e < 6 then false else w.testBit (e - 6) := fun e => by
        have := tb_m (a := w) (e := 6) (i := 0) (k := e) (by omega)
        rw [Nat.add_zero, Nat.zero_testBit] at this; exact this
      constructor
      · intro h
        refine ⟨fun e _ he => h e ?_, fun e he hbe => h e ?_⟩
        · rw [tb64 hb]
          rw [hx] at he
          by_cases h6 : e < 6
          · rw [if_pos h6] at he; cases he
          · rw [if_neg h6] at he ⊢; exact he
        · rw [tb64 hb, if_pos he]; exact hbe
      · rintro ⟨g1, g2⟩ e he
        rw [tb64 hb] at he
        by_cases h6 : e < 6
        · rw [if_pos h6] at he; exact g2 e h6 he
        · rw [if_neg h6] at he
          have he32 : e < 32 := Classical.byContradiction (fun q => by
            rw [Nat.testBit_lt_two_pow (Nat.lt_of_lt_of_le (show w < 2 ^ 4 by omega) (Nat.pow_le_pow_right (by omega) (by omega)))] at he; cases he)
          exact g1 e he32 (by rw [hx, if_neg h6]; exact he)
    have hz : ((n32 (w * 64)) &&& (n32 kept ^^^ (-1 : Int32))) = 0 ↔ ∀ e, e < 32 → (w * 64).testBit e = true → kept.testBit e = true := by
      rw [and_z]
      constructor
      · intro h e he hb
        have := h e he
        rw [bt_n, bt_xor, bt_m1 e he, bt_n, decide_eq_true he, hb] at this
        cases hq : kept.testBit e with
        | true => rfl
        | false => rw [hq] at this; exact absurd ⟨rfl, rfl⟩ this
      · rintro h e he ⟨q1, q2⟩
        rw [bt_n, decide_eq_true he, Bool.true_and] at q1
        rw [bt_xor, bt_m1 e he, bt_n, decide_eq_true he, h e he q1] at q2
        exact absurd q2 (by decide)
    by_cases hzz : ((n32 (w * 64)) &&& (n32 kept ^^^ (-1 : Int32))) = 0
    · obtain ⟨y, ey, hy⟩ := X_prs12 (fu := fu) (S := T) (kept := kept) (w := w) hn hk (by omega) 10 fu 0 (T.2.2 48 w) (by omega) (by omega)
      have hrb : ∀ s, rb T 0 s = rb S 0 s := fun s => by unfold rb; rw [h3]
      have hbit : ∀ b, b < 64 → (lb (y &&& L) b = true ↔ isPr f n kept (w * 64 + b)) := fun b hb => by
        rw [Nat.mul_comm w 64]
        have hs : 64 * w + b < 64 * wo n := by omega
        have h0 : lb (T.2.2 48 w) b = rb S 0 (64 * w + b) := by
          unfold rb
          rw [show (64 * w + b) / 64 = w from by omega, show (64 * w + b) % 64 = b from by omega, h3]
        rw [lb_and, Bool.and_eq_true, hy b hb, hL b hb, h0, hR _ hs]
        constructor
        · rintro ⟨⟨q1, q2⟩, q3⟩
          have hso := (hsub b hb).mpr ⟨hz.mp hzz, q3⟩
          refine (pr_leaf hk hso).mpr ⟨q1, fun e he hke hc => ?_⟩
          have := q2 e (by omega) (by omega) hke
          rw [hrb, (hR _ (fl_lt hn he hs)).mpr hc] at this; cases this
        · intro hp
          have hso := hp.2.1
          obtain ⟨p1, p2⟩ := (pr_leaf hk hso).mp hp
          refine ⟨⟨p1, fun e _ he hke => ?_⟩, ((hsub b hb).mp hso).2⟩
          have hen : e < n := Classical.byContradiction (fun q => by
            rw [Nat.testBit_lt_two_pow (Nat.lt_of_lt_of_le hk (Nat.pow_le_pow_right (by omega) (by omega)))] at hke; cases hke)
          rw [hrb]
          cases hq : rb S 0 ((64 * w + b) ^^^ 2 ^ e) with
          | false => rfl
          | true => exact absurd ((hR _ (fl_lt hn hen hs)).mp hq) (p2 e hen hke)
      obtain ⟨U, u1, u2, u3, u4⟩ := X_add6 (fu := fu) (f := f) (n := n) (kept := kept) (first := w * 64) hn hk (by omega) hfu 64 fu 0 (y &&& L) T _ (by omega) (by omega) (fun c h => absurd h (by omega)) (fun b hb h => (hbit b hb).mp h) h1 (fun k hk => hk.elim (hFp k) (fun ⟨on, _, q1, q2⟩ => ⟨kept, on, q1, q2⟩)) (fun b hb h => by
        have hp := (hbit b hb).mp h
        rintro (q | ⟨on, q1, q2, q3⟩)
        · exact hnew _ hp q
        · have := keyN_inj hkp (sub_le hp.2.1) hkp (sub_le q2.2.1) q3
          omega)
      refine ⟨U, ⟨u1.cg (fun k => ?_), h2.tr u2, u3.trans h3⟩, ?_⟩
      · constructor
        · rintro ((q | ⟨on, q1, q2, q3⟩) | ⟨b, b1, b2, b3⟩)
          · exact Or.inl q
          · exact Or.inr ⟨on, by omega, q2, q3⟩
          · exact Or.inr ⟨w * 64 + b, by omega, (hbit b b1).mp b2, b3⟩
        · rintro (q | ⟨on, q1, q2, q3⟩)
          · exact Or.inl (Or.inl q)
          · by_cases hon : on / 64 < w
            · exact Or.inl (Or.inr ⟨on, hon, q2, q3⟩)
            · have hw2 : w * 64 + on % 64 = on := by omega
              exact Or.inr ⟨on % 64, by omega, (hbit _ (by omega)).mpr (by rw [hw2]; exact q2), by rw [hw2]; exact q3⟩
      · have hra : hp_ra (enc T) 47 (0 : Int32) = some 48 := ra_lv (i := 0) (by omega)
        have hrd : hp_rl (enc T) 48 (n32 w) = some (T.2.2 48 w) := rd_lv (i := 0) (by omega) (by omega)
        have ey' : f_X_primeSettings_12 fu fu 45 (n32 kept) (n32 w) (T.2.2 48 w) 0 (enc T) = some (y, enc T) := ey
        have u4' : f_X_addAll_6 fu fu 45 (n32 kept) (n32 (w * 64)) (y &&& L) 0 (enc T) = some (enc U) := u4
        simp only [f_X_collect_9, f_X_collect_49, f_X_primeSettings, f_X_addAll, Option.bind_some, is_0, gr_0_0, gr_0_1, gr_0_2, gr_0_3, gr_0_4, gr_0_5, gi_tp, pi_tp, gi_tf, pi_tf, gi_xf, pi_xf, is_1, gr_1_0, gr_1_1, gi_en, pi_en, is_4, gr_4_0, gr_4_1, gr_4_2, gr_4_3, gi_gn, pi_gn, is_9, gr_9_0, gr_9_1, gi_ts, pi_ts, gi_tw, pi_tw, gi_tc, pi_tc, is_40, gr_40_0, is_42, gr_42_0, gr_42_1, gi_dn, pi_dn, is_45, gr_45_0, gr_45_1, gi_xw, pi_xw, gi_xn, pi_xn, gi_xt, pi_xt, is_59, gi_mco, pi_mco, gi_mev, pi_mev, gr_59_2, gr_59_3, gi_mgt, pi_mgt, gr_59_5, gr_59_6, gr_59_7, gr_59_8, gi_mtp, pi_mtp, gr_59_10, gr_59_11, gr_59_12, gr_59_13, gr_59_14, gr_59_15, gi_mmy, pi_mmy, gr_59_17, gr_59_18, hWT, if_neg hle, nl_mul, if_pos hzz, hra, hrd, ey', u4', nl_add]
    · refine ⟨T, ⟨h1.cg (fun k => ?_), h2, h3⟩, ?_⟩
      · constructor
        · rintro (q | ⟨on, q1, q2, q3⟩)
          · exact Or.inl q
          · exact Or.inr ⟨on, by omega, q2, q3⟩
        · rintro (q | ⟨on, q1, q2, q3⟩)
          · exact Or.inl q
          · by_cases hon : on / 64 < w
            · exact Or.inr ⟨on, hon, q2, q3⟩
            · have hw2 : 64 * w + on % 64 = on := by omega
              have := (hsub (on % 64) (by omega)).mp (by rw [hw2]; exact q2.2.1)
              exact absurd (hz.mpr this.1) hzz
      · simp only [f_X_collect_9, f_X_collect_49, Option.bind_some, is_0, gr_0_0, gr_0_1, gr_0_2, gr_0_3, gr_0_4, gr_0_5, gi_tp, pi_tp, gi_tf, pi_tf, gi_xf, pi_xf, is_1, gr_1_0, gr_1_1, gi_en, pi_en, is_4, gr_4_0, gr_4_1, gr_4_2, gr_4_3, gi_gn, pi_gn, is_9, gr_9_0, gr_9_1, gi_ts, pi_ts, gi_tw, pi_tw, gi_tc, pi_tc, is_40, gr_40_0, is_42, gr_42_0, gr_42_1, gi_dn, pi_dn, is_45, gr_45_0, gr_45_1, gi_xw, pi_xw, gi_xn, pi_xn, gi_xt, pi_xt, is_59, gi_mco, pi_mco, gi_mev, pi_mev, gr_59_2, gr_59_3, gi_mgt, pi_mgt, gr_59_5, gr_59_6, gr_59_7, gr_59_8, gi_mtp, pi_mtp, gr_59_10, gr_59_11, gr_59_12, gr_59_13, gr_59_14, gr_59_15, gi_mmy, pi_mmy, gr_59_17, gr_59_18, hWT, if_neg hle, nl_mul, if_neg hzz, nl_add])
  have hWT : T.1 45 2 = n32 (wo n) := by rw [t2.2.1]; exact hW
  refine ⟨T, t1.cg (fun k => ?_), t2, t3, ?_⟩
  · constructor
    · rintro (q | ⟨on, _, q2, q3⟩)
      · exact Or.inl q
      · exact Or.inr ⟨on, q2, q3⟩
    · rintro (q | ⟨on, q2, q3⟩)
      · exact Or.inl q
      · have := wo_s q2.lt
        exact Or.inr ⟨on, by omega, q2, q3⟩
  · simp only [f_X_collect, Option.bind_some, is_0, gr_0_0, gr_0_1, gr_0_2, gr_0_3, gr_0_4, gr_0_5, gi_tp, pi_tp, gi_tf, pi_tf, gi_xf, pi_xf, is_1, gr_1_0, gr_1_1, gi_en, pi_en, is_4, gr_4_0, gr_4_1, gr_4_2, gr_4_3, gi_gn, pi_gn, is_9, gr_9_0, gr_9_1, gi_ts, pi_ts, gi_tw, pi_tw, gi_tc, pi_tc, is_40, gr_40_0, is_42, gr_42_0, gr_42_1, gi_dn, pi_dn, is_45, gr_45_0, gr_45_1, gi_xw, pi_xw, gi_xn, pi_xn, gi_xt, pi_xt, is_59, gi_mco, pi_mco, gi_mev, pi_mev, gr_59_2, gr_59_3, gi_mgt, pi_mgt, gr_59_5, gr_59_6, gr_59_7, gr_59_8, gi_mtp, pi_mtp, gr_59_10, gr_59_11, gr_59_12, gr_59_13, gr_59_14, gr_59_15, gi_mmy, pi_mmy, gr_59_17, gr_59_18, eL]
    refine Eq.trans e1 ?_
    simp only [f_X_collect_9, Option.bind_some, is_0, gr_0_0, gr_0_1, gr_0_2, gr_0_3, gr_0_4, gr_0_5, gi_tp, pi_tp, gi_tf, pi_tf, gi_xf, pi_xf, is_1, gr_1_0, gr_1_1, gi_en, pi_en, is_4, gr_4_0, gr_4_1, gr_4_2, gr_4_3, gi_gn, pi_gn, is_9, gr_9_0, gr_9_1, gi_ts, pi_ts, gi_tw, pi_tw, gi_tc, pi_tc, is_40, gr_40_0, is_42, gr_42_0, gr_42_1, gi_dn, pi_dn, is_45, gr_45_0, gr_45_1, gi_xw, pi_xw, gi_xn, pi_xn, gi_xt, pi_xt, is_59, gi_mco, pi_mco, gi_mev, pi_mev, gr_59_2, gr_59_3, gi_mgt, pi_mgt, gr_59_5, gr_59_6, gr_59_7, gr_59_8, gi_mtp, pi_mtp, gr_59_10, gr_59_11, gr_59_12, gr_59_13, gr_59_14, gr_59_15, gi_mmy, pi_mmy, gr_59_17, gr_59_18, hWT, if_pos (show n32 (wo n) ≤ n32 (wo n) from (n32_le (by omega) (by omega)).mpr (Nat.le_refl _))]
end
