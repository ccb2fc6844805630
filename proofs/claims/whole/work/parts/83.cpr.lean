/-! primes, prime, share -/
section
variable {fu : Nat} {S : Ws} {A : Ab} {r : Nat → Nat}
/-- the model's arrays hold the list -/
def ML (W : Ws) (L : List Nat) : Prop := W.1 59 16 = n32 L.length ∧ ∀ (j : Nat) (h : j < L.length), kh W j (L[j])
theorem PrL.gk {f : Nat → Bool} {n : Nat} (hn : n ≤ 10) {L : List Nat} (h : PrL f n L) {k : Nat} (hk : k ∈ L) : gk k := FdC_gk hn (FdC_all.mpr ((h.2 k).mp hk))
theorem PrL.lt {f : Nat → Bool} {n : Nat} (hn : n ≤ 10) {L : List Nat} (h : PrL f n L) {k : Nat} (hk : k ∈ L) : k < 2147483648 := PrK.lt hn ((h.2 k).mp hk)
theorem M_fails1 (I : Inv S A r) {t : Nat} (ht : aT A = some t) (hfu : 60000 ≤ fu) : ∃ W L, Inv W A r ∧ W.2.2 74 = S.2.2 74 ∧ PrL (fun s => evR A r s t) (aE A) L ∧ ((L.length ≤ 300 ∧ W.1 59 0 = 0 ∧ ML W L ∧ f_M_fails fu 59 2 (enc S) = some (0, enc W)) ∨ (300 < L.length ∧ W.1 59 0 = 3 ∧ f_M_fails fu 59 2 (enc S) = some (1, enc W))) := by
  obtain ⟨O, D, M, -, -⟩ := id I
  have hE := O.1
  have hp3 := p3 hE
  obtain ⟨V, v1, v2, v3⟩ := M_lacks1 (fu := fu) O M ht (v := 2) (by omega)
  have IV := (I.code 0).frw v1
  obtain ⟨T, t1, t2, t3⟩ := M_tab (fu := fu) (S := V) (f := fun s => evR A r s t) (N := 3 ^ aE A) rfl hp3 hE IV.2.2.1.1 v2 hfu
  have hcb : ∀ c, cb (sS T 59 16 0) c = cb T c := fun c => rfl
  have hE' : (sS T 59 16 0).1 59 1 = n32 (aE A) := by
    show T.1 59 1 = _
    rw [t1.1]; exact IV.2.2.1.1
  obtain ⟨W, w1, w2⟩ := M_147 (fu := fu) (f := fun s => evR A r s t) hE (by omega) (3 ^ aE A) fu 0 (sS T 59 16 0) 0 (fun _ => 0) (by omega) (by omega) hE' (fun c hc => t2 c hc) ⟨by omega, fun i j _ h => absurd h (by omega), rfl, fun j h => absurd h (by omega), fun k => ⟨fun ⟨c', h, _⟩ => absurd h (by omega), fun ⟨j, h, _⟩ => absurd h (by omega)⟩⟩
  have hW1 : ∀ q k, ¬ (q = 59 ∧ k = 16) → W.1 q k = V.1 q k := fun q k h => by
    rw [w1.1 q k h, sS1]
    by_cases hq : q = 59
    · subst hq
      rw [if_pos rfl, upd_at, if_neg (fun e => h ⟨rfl, e⟩), t1.1]
    · rw [if_neg hq, t1.1]
  have IW0 : ∀ x, Inv (sS W 59 0 x) A r := fun x => by
    refine (IV.code x).cg ?_ ?_ ?_ ?_ ?_ ?_ ?_ ?_ ?_ ?_
    · exact funext (fun k => hW1 0 k (by omega))
    · exact funext (fun k => hW1 1 k (by omega))
    · exact funext (fun k => hW1 4 k (by omega))
    · exact funext (fun k => hW1 9 k (by omega))
    · exact funext (fun k => hW1 45 k (by omega))
    · exact hW1 59 1 (by omega)
    · exact hW1 59 4 (by omega)
    · exact hW1 59 9 (by omega)
    · intro q hq
      show W.2.1 q = V.2.1 q
      rw [w1.2.1 q (by intro e; subst e; simp at hq) (by intro e; subst e; simp at hq)]
      show T.2.1 q = _
      rw [t1.2.1]
    · intro q h1 h2
      show W.2.2 q = V.2.2 q
      rw [w1.2.2]
      show T.2.2 q = _
      exact t1.2.2 q (by omega)
  have h74 : W.2.2 74 = S.2.2 74 := by
    rw [w1.2.2]
    show T.2.2 74 = _
    rw [t1.2.2 74 (by omega), v1.2.1]; rfl
  have hpw := M_power (fu := fu) (e := aE A) (w := enc V) (by omega) (by omega)
  rcases w2 with ⟨cnt, g, ⟨k1, k2, k3, k4, k5⟩, ew⟩ | ⟨⟨c, g, c1, c2, c3⟩, ew⟩
  · have hL : PrL (fun s => evR A r s t) (aE A) ((List.range cnt).map g) := PrL_mk k2 (fun k => FdC_all.symm.trans (k5 k))
    have hlen : ((List.range cnt).map g).length = cnt := by rw [List.length_map, List.length_range]
    refine ⟨sS W 59 0 0, (List.range cnt).map g, IW0 0, h74, hL, Or.inl ⟨by rw [hlen]; exact k1, rfl, ⟨by rw [hlen]; exact k3, fun j hj => ?_⟩, ?_⟩⟩
    · rw [List.getElem_map, List.getElem_range]
      exact k4 j (by rw [hlen] at hj; exact hj)
    · have ew' : f_M_findPrimes_147 fu fu 59 (n32 (3 ^ aE A)) 0 (enc (sS T 59 16 0)) = some (1, enc W) := ew
      simp only [f_M_fails, f_M_fails_25, f_M_fails_40, f_M_findPrimes, Option.bind_some, is_0, gr_0_0, gr_0_1, gr_0_2, gr_0_3, gr_0_4, gr_0_5, gi_tp, pi_tp, gi_tf, pi_tf, gi_xf, pi_xf, is_1, gr_1_0, gr_1_1, gi_en, pi_en, is_4, gr_4_0, gr_4_1, gr_4_2, gr_4_3, gi_gn, pi_gn, is_9, gr_9_0, gr_9_1, gi_ts, pi_ts, gi_tw, pi_tw, gi_tc, pi_tc, is_40, gr_40_0, is_42, gr_42_0, gr_42_1, gi_dn, pi_dn, is_45, gr_45_0, gr_45_1, gi_xw, pi_xw, gi_xn, pi_xn, gi_xt, pi_xt, is_59, gi_mco, pi_mco, gi_mev, pi_mev, gr_59_2, gr_59_3, gi_mgt, pi_mgt, gr_59_5, gr_59_6, gr_59_7, gr_59_8, gi_mtp, pi_mtp, gr_59_10, gr_59_11, gr_59_12, gr_59_13, gr_59_14, gr_59_15, gi_mmy, pi_mmy, gr_59_17, gr_59_18, v3, if_true, IV.2.2.1.1, hpw, t3, ew', if_neg (show ¬ (1 : Int32) = 0 by decide), sS1, upd_at, show (0 : Int32) ≤ 0 from by decide, true_or]
  · obtain ⟨L, hL⟩ := PrL_ex (f := fun s => evR A r s t) hE
    have hlen := hL.len c2 c3
    refine ⟨sS W 59 0 3, L, IW0 3, h74, hL, Or.inr ⟨by omega, rfl, ?_⟩⟩
    have ew' : f_M_findPrimes_147 fu fu 59 (n32 (3 ^ aE A)) 0 (enc (sS T 59 16 0)) = some (0, enc W) := ew
    simp only [f_M_fails, f_M_fails_25, f_M_fails_40, f_M_findPrimes, Option.bind_some, is_0, gr_0_0, gr_0_1, gr_0_2, gr_0_3, gr_0_4, gr_0_5, gi_tp, pi_tp, gi_tf, pi_tf, gi_xf, pi_xf, is_1, gr_1_0, gr_1_1, gi_en, pi_en, is_4, gr_4_0, gr_4_1, gr_4_2, gr_4_3, gi_gn, pi_gn, is_9, gr_9_0, gr_9_1, gi_ts, pi_ts, gi_tw, pi_tw, gi_tc, pi_tc, is_40, gr_40_0, is_42, gr_42_0, gr_42_1, gi_dn, pi_dn, is_45, gr_45_0, gr_45_1, gi_xw, pi_xw, gi_xn, pi_xn, gi_xt, pi_xt, is_59, gi_mco, pi_mco, gi_mev, pi_mev, gr_59_2, gr_59_3, gi_mgt, pi_mgt, gr_59_5, gr_59_6, gr_59_7, gr_59_8, gi_mtp, pi_mtp, gr_59_10, gr_59_11, gr_59_12, gr_59_13, gr_59_14, gr_59_15, gi_mmy, pi_mmy, gr_59_17, gr_59_18, v3, if_true, IV.2.2.1.1, hpw, t3, ew', show (2 : Int32) + 1 = 3 from by decide, sS1, upd_at, if_neg (show ¬ (3 : Int32) ≤ 0 by decide), or_true]
theorem M_fails0 (M : RM S A) (ht : aT A = none) : f_M_fails fu 59 2 (enc S) = some (1, enc (sS S 59 0 2)) := by
  simp only [f_M_fails, Option.bind_some, is_0, gr_0_0, gr_0_1, gr_0_2, gr_0_3, gr_0_4, gr_0_5, gi_tp, pi_tp, gi_tf, pi_tf, gi_xf, pi_xf, is_1, gr_1_0, gr_1_1, gi_en, pi_en, is_4, gr_4_0, gr_4_1, gr_4_2, gr_4_3, gi_gn, pi_gn, is_9, gr_9_0, gr_9_1, gi_ts, pi_ts, gi_tw, pi_tw, gi_tc, pi_tc, is_40, gr_40_0, is_42, gr_42_0, gr_42_1, gi_dn, pi_dn, is_45, gr_45_0, gr_45_1, gi_xw, pi_xw, gi_xn, pi_xn, gi_xt, pi_xt, is_59, gi_mco, pi_mco, gi_mev, pi_mev, gr_59_2, gr_59_3, gi_mgt, pi_mgt, gr_59_5, gr_59_6, gr_59_7, gr_59_8, gi_mtp, pi_mtp, gr_59_10, gr_59_11, gr_59_12, gr_59_13, gr_59_14, gr_59_15, gi_mmy, pi_mmy, gr_59_17, gr_59_18, M_lacks0 M ht (v := 2) (by decide), if_neg (show ¬ (1 : Int32) = 0 by decide), or_true, if_true]
/-- how many of a list -/
def cP (L : List Nat) (p : Nat → Bool) : Nat := L.countP p
theorem X_cut {L : List Nat} {v : Nat} (hL : L.length ≤ 300) (hlt : ∀ k, k ∈ L → k < 2147483648) (h3 : S.1 45 3 = n32 L.length) (h46 : ∀ (j : Nat) (h : j < L.length), S.2.1 46 j = n32 (L[j])) (hv : v ≤ 10) (hfu : 2000 ≤ fu) : f_X_countUpTo fu 45 (n32 v) (enc S) = some (n32 (L.countP (fun k => decide (k / 1048576 ≤ v))), enc S) := by
  obtain ⟨y, hy, m, e1⟩ := lp0 (F := fun m j y => f_X_countUpTo_4 fu m 45 (n32 v) (n32 y) (n32 j) (enc S)) (I := fun j y => y = (L.take j).countP (fun k => decide (k / 1048576 ≤ v))) (N := L.length) (n := fu) (s := 0) (by omega) rfl (fun m j y hj hI => by
    obtain rfl := hI
    have hle : ¬ n32 L.length ≤ n32 j := by rw [n32_le (by omega) (by omega)]; omega
    have hk := hlt _ (List.getElem_mem hj)
    have hs : n32 (L[j]) >>> ((20 : Int32) &&& 31) = n32 (L[j] / 1048576) := by
      have := n32_sar (a := L[j]) (k := 20) hk (by omega)
      rw [Nat.shiftRight_eq_div_pow] at this; exact this
    refine ⟨_, rfl, ?_⟩
    rw [take_cnt hj]
    by_cases hq : L[j] / 1048576 ≤ v
    · rw [if_pos (decide_eq_true hq)]
      simp only [f_X_countUpTo_4, f_X_countUpTo_28, Option.bind_some, is_0, gr_0_0, gr_0_1, gr_0_2, gr_0_3, gr_0_4, gr_0_5, gi_tp, pi_tp, gi_tf, pi_tf, gi_xf, pi_xf, is_1, gr_1_0, gr_1_1, gi_en, pi_en, is_4, gr_4_0, gr_4_1, gr_4_2, gr_4_3, gi_gn, pi_gn, is_9, gr_9_0, gr_9_1, gi_ts, pi_ts, gi_tw, pi_tw, gi_tc, pi_tc, is_40, gr_40_0, is_42, gr_42_0, gr_42_1, gi_dn, pi_dn, is_45, gr_45_0, gr_45_1, gi_xw, pi_xw, gi_xn, pi_xn, gi_xt, pi_xt, is_59, gi_mco, pi_mco, gi_mev, pi_mev, gr_59_2, gr_59_3, gi_mgt, pi_mgt, gr_59_5, gr_59_6, gr_59_7, gr_59_8, gi_mtp, pi_mtp, gr_59_10, gr_59_11, gr_59_12, gr_59_13, gr_59_14, gr_59_15, gi_mmy, pi_mmy, gr_59_17, gr_59_18, h3, if_neg hle, rd_ky (show j < 300 by omega), h46 j hj, hs, if_neg (show ¬ n32 v < n32 (L[j] / 1048576) from fun q => by have := (n32_lt (by omega) (by omega)).mp q; omega), nl_add]
    · rw [if_neg (by rw [decide_eq_false hq]; decide)]
      simp only [f_X_countUpTo_4, f_X_countUpTo_28, Option.bind_some, is_0, gr_0_0, gr_0_1, gr_0_2, gr_0_3, gr_0_4, gr_0_5, gi_tp, pi_tp, gi_tf, pi_tf, gi_xf, pi_xf, is_1, gr_1_0, gr_1_1, gi_en, pi_en, is_4, gr_4_0, gr_4_1, gr_4_2, gr_4_3, gi_gn, pi_gn, is_9, gr_9_0, gr_9_1, gi_ts, pi_ts, gi_tw, pi_tw, gi_tc, pi_tc, is_40, gr_40_0, is_42, gr_42_0, gr_42_1, gi_dn, pi_dn, is_45, gr_45_0, gr_45_1, gi_xw, pi_xw, gi_xn, pi_xn, gi_xt, pi_xt, is_59, gi_mco, pi_mco, gi_mev, pi_mev, gr_59_2, gr_59_3, gi_mgt, pi_mgt, gr_59_5, gr_59_6, gr_59_7, gr_59_8, gi_mtp, pi_mtp, gr_59_10, gr_59_11, gr_59_12, gr_59_13, gr_59_14, gr_59_15, gi_mmy, pi_mmy, gr_59_17, gr_59_18, h3, if_neg hle, rd_ky (show j < 300 by omega), h46 j hj, hs, if_pos (show n32 v < n32 (L[j] / 1048576) from (n32_lt (by omega) (by omega)).mpr (by omega)), nl_add, Nat.add_zero])
  obtain rfl := hy
  refine Eq.trans e1 ?_
  simp only [f_X_countUpTo_4, Option.bind_some, is_0, gr_0_0, gr_0_1, gr_0_2, gr_0_3, gr_0_4, gr_0_5, gi_tp, pi_tp, gi_tf, pi_tf, gi_xf, pi_xf, is_1, gr_1_0, gr_1_1, gi_en, pi_en, is_4, gr_4_0, gr_4_1, gr_4_2, gr_4_3, gi_gn, pi_gn, is_9, gr_9_0, gr_9_1, gi_ts, pi_ts, gi_tw, pi_tw, gi_tc, pi_tc, is_40, gr_40_0, is_42, gr_42_0, gr_42_1, gi_dn, pi_dn, is_45, gr_45_0, gr_45_1, gi_xw, pi_xw, gi_xn, pi_xn, gi_xt, pi_xt, is_59, gi_mco, pi_mco, gi_mev, pi_mev, gr_59_2, gr_59_3, gi_mgt, pi_mgt, gr_59_5, gr_59_6, gr_59_7, gr_59_8, gi_mtp, pi_mtp, gr_59_10, gr_59_11, gr_59_12, gr_59_13, gr_59_14, gr_59_15, gi_mmy, pi_mmy, gr_59_17, gr_59_18, h3, if_pos (show n32 L.length ≤ n32 L.length from (n32_le (by omega) (by omega)).mpr (Nat.le_refl _)), List.take_length]
theorem gk_pc {k : Nat} (h : gk k) : k / 1048576 = pc (k / 1024 % 1024) + pc (k % 1024) := by
  have := (ky_p (on := k / 1024 % 1024) (off := k % 1024) (by omega) (by omega)).2.2
  rw [← h] at this; exact this
theorem M_p40 {L : List Nat} {v : Nat} (hL : L.length ≤ 300) (hg : ∀ k, k ∈ L → gk k) (H : ML S L) (hv : v ≤ 10) (hfu : 2000 ≤ fu) : f_M_primes_40 fu fu 59 (n32 v) 0 0 (enc S) = some (n32 (L.countP (fun k => decide (k / 1048576 ≤ v))), enc S) := by
  obtain ⟨y, hy, m, e1⟩ := lp0 (F := fun m j y => f_M_primes_40 fu m 59 (n32 v) (n32 y) (n32 j) (enc S)) (I := fun j y => y = (L.take j).countP (fun k => decide (k / 1048576 ≤ v))) (N := L.length) (n := fu) (s := 0) (by omega) rfl (fun m j y hj hI => by
    obtain rfl := hI
    have hle : ¬ n32 L.length ≤ n32 j := by rw [n32_le (by omega) (by omega)]; omega
    obtain ⟨r1, r2⟩ := H.2 j hj
    have hpc := gk_pc (hg _ (List.getElem_mem hj))
    have l1 := pc_le (L[j] / 1024 % 1024)
    have l2 := pc_le (L[j] % 1024)
    refine ⟨_, rfl, ?_⟩
    rw [take_cnt hj, hpc]
    by_cases hq : pc (L[j] / 1024 % 1024) + pc (L[j] % 1024) ≤ v
    · rw [if_pos (decide_eq_true hq)]
      simp only [f_M_primes_40, f_M_primes_77, Option.bind_some, is_0, gr_0_0, gr_0_1, gr_0_2, gr_0_3, gr_0_4, gr_0_5, gi_tp, pi_tp, gi_tf, pi_tf, gi_xf, pi_xf, is_1, gr_1_0, gr_1_1, gi_en, pi_en, is_4, gr_4_0, gr_4_1, gr_4_2, gr_4_3, gi_gn, pi_gn, is_9, gr_9_0, gr_9_1, gi_ts, pi_ts, gi_tw, pi_tw, gi_tc, pi_tc, is_40, gr_40_0, is_42, gr_42_0, gr_42_1, gi_dn, pi_dn, is_45, gr_45_0, gr_45_1, gi_xw, pi_xw, gi_xn, pi_xn, gi_xt, pi_xt, is_59, gi_mco, pi_mco, gi_mev, pi_mev, gr_59_2, gr_59_3, gi_mgt, pi_mgt, gr_59_5, gr_59_6, gr_59_7, gr_59_8, gi_mtp, pi_mtp, gr_59_10, gr_59_11, gr_59_12, gr_59_13, gr_59_14, gr_59_15, gi_mmy, pi_mmy, gr_59_17, gr_59_18, H.1, if_neg hle, rd_mos (show j < 301 by omega), rd_mof (show j < 301 by omega), r1, r2, M_size hfu, n32_add, if_neg (show ¬ n32 v < n32 (pc (L[j] / 1024 % 1024) + pc (L[j] % 1024)) from fun q => by have := (n32_lt (by omega) (by omega)).mp q; omega), nl_add]
    · rw [if_neg (by rw [decide_eq_false hq]; decide)]
      simp only [f_M_primes_40, f_M_primes_77, Option.bind_some, is_0, gr_0_0, gr_0_1, gr_0_2, gr_0_3, gr_0_4, gr_0_5, gi_tp, pi_tp, gi_tf, pi_tf, gi_xf, pi_xf, is_1, gr_1_0, gr_1_1, gi_en, pi_en, is_4, gr_4_0, gr_4_1, gr_4_2, gr_4_3, gi_gn, pi_gn, is_9, gr_9_0, gr_9_1, gi_ts, pi_ts, gi_tw, pi_tw, gi_tc, pi_tc, is_40, gr_40_0, is_42, gr_42_0, gr_42_1, gi_dn, pi_dn, is_45, gr_45_0, gr_45_1, gi_xw, pi_xw, gi_xn, pi_xn, gi_xt, pi_xt, is_59, gi_mco, pi_mco, gi_mev, pi_mev, gr_59_2, gr_59_3, gi_mgt, pi_mgt, gr_59_5, gr_59_6, gr_59_7, gr_59_8, gi_mtp, pi_mtp, gr_59_10, gr_59_11, gr_59_12, gr_59_13, gr_59_14, gr_59_15, gi_mmy, pi_mmy, gr_59_17, gr_59_18, H.1, if_neg hle, rd_mos (show j < 301 by omega), rd_mof (show j < 301 by omega), r1, r2, M_size hfu, n32_add, if_pos (show n32 v < n32 (pc (L[j] / 1024 % 1024) + pc (L[j] % 1024)) from (n32_lt (by omega) (by omega)).mpr (by omega)), nl_add, Nat.add_zero])
  obtain rfl := hy
  refine Eq.trans e1 ?_
  simp only [f_M_primes_40, Option.bind_some, is_0, gr_0_0, gr_0_1, gr_0_2, gr_0_3, gr_0_4, gr_0_5, gi_tp, pi_tp, gi_tf, pi_tf, gi_xf, pi_xf, is_1, gr_1_0, gr_1_1, gi_en, pi_en, is_4, gr_4_0, gr_4_1, gr_4_2, gr_4_3, gi_gn, pi_gn, is_9, gr_9_0, gr_9_1, gi_ts, pi_ts, gi_tw, pi_tw, gi_tc, pi_tc, is_40, gr_40_0, is_42, gr_42_0, gr_42_1, gi_dn, pi_dn, is_45, gr_45_0, gr_45_1, gi_xw, pi_xw, gi_xn, pi_xn, gi_xt, pi_xt, is_59, gi_mco, pi_mco, gi_mev, pi_mev, gr_59_2, gr_59_3, gi_mgt, pi_mgt, gr_59_5, gr_59_6, gr_59_7, gr_59_8, gi_mtp, pi_mtp, gr_59_10, gr_59_11, gr_59_12, gr_59_13, gr_59_14, gr_59_15, gi_mmy, pi_mmy, gr_59_17, gr_59_18, H.1, if_pos (show n32 L.length ≤ n32 L.length from (n32_le (by omega) (by omega)).mpr (Nat.le_refl _)), List.take_length]
/-- the desk's terms against the list -/
theorem TmOK.l {t : Nat} (h : TmOK S A r) (ht : aT A = some t) {L : List Nat} (hL : PrL (fun s => evR A r s t) (aE A) L) : (L.length ≤ 300 → S.1 45 3 = n32 L.length ∧ S.1 45 4 = 0 ∧ ∀ (j : Nat) (h : j < L.length), S.2.1 46 j = n32 (L[j])) ∧ (300 < L.length → S.1 45 4 = 1) := by
  obtain ⟨t', h0, L', h1, h2, h3⟩ := h
  rw [ht] at h0
  obtain rfl := Option.some.inj h0
  have := hL.uq h1
  subst this
  exact ⟨h2, h3⟩
theorem c_primes (I : Inv S A r) (v : Int32) (hfu : 60000 ≤ fu) : Cas (f_L_primes fu 0 v 74) (f_M_primes fu 59 v) S := by
  obtain ⟨O, D, M, -, -⟩ := id I
  have hT := D.2.2.2.2.2.1
  have hE := O.1
  have hG := O.2.1
  cases hv : vd 11 v with
  | false =>
    refine Cas.no I (k := 1) (by decide) ?_ ?_
    · simp only [f_L_primes, f_F_primes, f_F_primes_10, Option.bind_some, is_0, gr_0_0, gr_0_1, gr_0_2, gr_0_3, gr_0_4, gr_0_5, gi_tp, pi_tp, gi_tf, pi_tf, gi_xf, pi_xf, is_1, gr_1_0, gr_1_1, gi_en, pi_en, is_4, gr_4_0, gr_4_1, gr_4_2, gr_4_3, gi_gn, pi_gn, is_9, gr_9_0, gr_9_1, gi_ts, pi_ts, gi_tw, pi_tw, gi_tc, pi_tc, is_40, gr_40_0, is_42, gr_42_0, gr_42_1, gi_dn, pi_dn, is_45, gr_45_0, gr_45_1, gi_xw, pi_xw, gi_xn, pi_xn, gi_xt, pi_xt, is_59, gi_mco, pi_mco, gi_mev, pi_mev, gr_59_2, gr_59_3, gi_mgt, pi_mgt, gr_59_5, gr_59_6, gr_59_7, gr_59_8, gi_mtp, pi_mtp, gr_59_10, gr_59_11, gr_59_12, gr_59_13, gr_59_14, gr_59_15, gi_mmy, pi_mmy, gr_59_17, gr_59_18]
      rw [vd_if2 (k := 10) (by omega), if_neg (by rw [hv]; decide)]; rfl
    · simp only [f_M_primes, f_M_primes_11]
      rw [vd_if2 (k := 10) (by omega), if_neg (by rw [hv]; decide)]
      simp only [f_M_primes_16, f_M_primes_34, Option.bind_some, is_0, gr_0_0, gr_0_1, gr_0_2, gr_0_3, gr_0_4, gr_0_5, gi_tp, pi_tp, gi_tf, pi_tf, gi_xf, pi_xf, is_1, gr_1_0, gr_1_1, gi_en, pi_en, is_4, gr_4_0, gr_4_1, gr_4_2, gr_4_3, gi_gn, pi_gn, is_9, gr_9_0, gr_9_1, gi_ts, pi_ts, gi_tw, pi_tw, gi_tc, pi_tc, is_40, gr_40_0, is_42, gr_42_0, gr_42_1, gi_dn, pi_dn, is_45, gr_45_0, gr_45_1, gi_xw, pi_xw, gi_xn, pi_xn, gi_xt, pi_xt, is_59, gi_mco, pi_mco, gi_mev, pi_mev, gr_59_2, gr_59_3, gi_mgt, pi_mgt, gr_59_5, gr_59_6, gr_59_7, gr_59_8, gi_mtp, pi_mtp, gr_59_10, gr_59_11, gr_59_12, gr_59_13, gr_59_14, gr_59_15, gi_mmy, pi_mmy, gr_59_17, gr_59_18, sS1, if_true, upd_at, if_pos (show (0 : Int32) < 1 by decide)]
  | true =>
    obtain ⟨mst, hm, rfl⟩ := vd_of (by omega) hv
    have eL : f_F_primes fu 0 (n32 mst) (enc S) = ((hp_is (enc S) 0 6).bind fun _ => (hx_bd (f_F_needTop fu 0 (enc S)) fun _ u3 => ((hp_is u3 0 6).bind fun _ => (hx_bd (f_F_needTerms fu 0 u3) fun _ u6 => ((hp_gr u6 0 6 5).bind fun q7 => ((hp_is u6 q7 4).bind fun _ => ((f_X_countUpTo fu q7 (n32 mst) u6).bind fun r8 => (some (Sum.inr r8.1, r8.2))))))))) := by
      unfold f_F_primes
      rw [vd_if2 (k := 10) (by omega), if_pos hv]
    have eM : ∀ w, f_M_primes fu 59 (n32 mst) w = f_M_primes_16 fu 59 (n32 mst) 59 0 w := fun w => by
      unfold f_M_primes
      rw [vd_if2 (k := 10) (by omega), if_pos hv]
    cases ht : aT A with
    | none =>
      rw [ht] at hT
      refine ⟨2, S, 0, sS (sS S 59 0 0) 59 0 2, ?_, ?_, rfl, fun h => absurd h (by decide), A, r, (I.code 0).code 2⟩
      · simp only [f_L_primes, eL, Option.bind_some, is_0, gr_0_0, gr_0_1, gr_0_2, gr_0_3, gr_0_4, gr_0_5, gi_tp, pi_tp, gi_tf, pi_tf, gi_xf, pi_xf, is_1, gr_1_0, gr_1_1, gi_en, pi_en, is_4, gr_4_0, gr_4_1, gr_4_2, gr_4_3, gi_gn, pi_gn, is_9, gr_9_0, gr_9_1, gi_ts, pi_ts, gi_tw, pi_tw, gi_tc, pi_tc, is_40, gr_40_0, is_42, gr_42_0, gr_42_1, gi_dn, pi_dn, is_45, gr_45_0, gr_45_1, gi_xw, pi_xw, gi_xn, pi_xn, gi_xt, pi_xt, is_59, gi_mco, pi_mco, gi_mev, pi_mev, gr_59_2, gr_59_3, gi_mgt, pi_mgt, gr_59_5, gr_59_6, gr_59_7, gr_59_8, gi_mtp, pi_mtp, gr_59_10, gr_59_11, gr_59_12, gr_59_13, gr_59_14, gr_59_15, gi_mmy, pi_mmy, gr_59_17, gr_59_18, F_needTop (t := none) (fun _ h => by cases h) hT, hx_inl, hl_inl]; rfl
      · have hf0 := M_fails0 (fu := fu) (I.code 0).2.2.1 ht
        simp only [eM, f_M_primes_16, f_M_primes_34, Option.bind_some, is_0, gr_0_0, gr_0_1, gr_0_2, gr_0_3, gr_0_4, gr_0_5, gi_tp, pi_tp, gi_tf, pi_tf, gi_xf, pi_xf, is_1, gr_1_0, gr_1_1, gi_en, pi_en, is_4, gr_4_0, gr_4_1, gr_4_2, gr_4_3, gi_gn, pi_gn, is_9, gr_9_0, gr_9_1, gi_ts, pi_ts, gi_tw, pi_tw, gi_tc, pi_tc, is_40, gr_40_0, is_42, gr_42_0, gr_42_1, gi_dn, pi_dn, is_45, gr_45_0, gr_45_1, gi_xw, pi_xw, gi_xn, pi_xn, gi_xt, pi_xt, is_59, gi_mco, pi_mco, gi_mev, pi_mev, gr_59_2, gr_59_3, gi_mgt, pi_mgt, gr_59_5, gr_59_6, gr_59_7, gr_59_8, gi_mtp, pi_mtp, gr_59_10, gr_59_11, gr_59_12, gr_59_13, gr_59_14, gr_59_15, gi_mmy, pi_mmy, gr_59_17, gr_59_18, sS1, if_true, upd_at, if_neg (show ¬ (0 : Int32) < 0 by decide), hf0, if_neg (show ¬ (1 : Int32) = 0 by decide)]
    | some t =>
      have htg := O.2.2.2.2.2.2.2 t ht
      rw [ht] at hT
      obtain ⟨T, IT, h74, hTm, eT⟩ := F_terms (fu := fu) I ht (by omega)
      obtain ⟨L0, hL0⟩ := PrL_ex (f := fun s => evR A r s t) hE
      obtain ⟨a1, a2⟩ := hTm.l ht hL0
      by_cases h300 : L0.length ≤ 300
      · obtain ⟨b1, b2, b3⟩ := a1 h300
        have e1 := X_cut (fu := fu) (S := T) (v := mst) h300 (fun k hk => hL0.lt hE hk) b1 b3 (by omega) (by omega)
        obtain ⟨W, L, IW, w74, wL, w2⟩ := M_fails1 (fu := fu) (S := sS (sL T 74 0 (n32 (L0.countP (fun k => decide (k / 1048576 ≤ mst)))).toInt64) 59 0 0) ((IT.out _).code 0) ht hfu
        have := hL0.uq wL
        subst this
        rcases w2 with ⟨-, w3, w4, w5⟩ | ⟨w3, -⟩
        · refine ⟨0, sL T 74 0 (n32 (L0.countP (fun k => decide (k / 1048576 ≤ mst)))).toInt64, n32 (L0.countP (fun k => decide (k / 1048576 ≤ mst))), W, ?_, ?_, w3, fun _ => ?_, A, r, IW⟩
          · simp only [f_L_primes, eL, Option.bind_some, is_0, gr_0_0, gr_0_1, gr_0_2, gr_0_3, gr_0_4, gr_0_5, gi_tp, pi_tp, gi_tf, pi_tf, gi_xf, pi_xf, is_1, gr_1_0, gr_1_1, gi_en, pi_en, is_4, gr_4_0, gr_4_1, gr_4_2, gr_4_3, gi_gn, pi_gn, is_9, gr_9_0, gr_9_1, gi_ts, pi_ts, gi_tw, pi_tw, gi_tc, pi_tc, is_40, gr_40_0, is_42, gr_42_0, gr_42_1, gi_dn, pi_dn, is_45, gr_45_0, gr_45_1, gi_xw, pi_xw, gi_xn, pi_xn, gi_xt, pi_xt, is_59, gi_mco, pi_mco, gi_mev, pi_mev, gr_59_2, gr_59_3, gi_mgt, pi_mgt, gr_59_5, gr_59_6, gr_59_7, gr_59_8, gi_mtp, pi_mtp, gr_59_10, gr_59_11, gr_59_12, gr_59_13, gr_59_14, gr_59_15, gi_mmy, pi_mmy, gr_59_17, gr_59_18, F_needTop (t := some t) (fun k h => by obtain rfl := Option.some.inj h; omega) hT, hx_inr, eT, b2, if_true, e1, hl_inr, wr_out0]
          · have e2 := M_p40 (fu := fu) (S := W) (v := mst) h300 (fun k hk => hL0.gk hE hk) w4 (by omega) (by omega)
            simp only [eM, f_M_primes_16, Option.bind_some, is_0, gr_0_0, gr_0_1, gr_0_2, gr_0_3, gr_0_4, gr_0_5, gi_tp, pi_tp, gi_tf, pi_tf, gi_xf, pi_xf, is_1, gr_1_0, gr_1_1, gi_en, pi_en, is_4, gr_4_0, gr_4_1, gr_4_2, gr_4_3, gi_gn, pi_gn, is_9, gr_9_0, gr_9_1, gi_ts, pi_ts, gi_tw, pi_tw, gi_tc, pi_tc, is_40, gr_40_0, is_42, gr_42_0, gr_42_1, gi_dn, pi_dn, is_45, gr_45_0, gr_45_1, gi_xw, pi_xw, gi_xn, pi_xn, gi_xt, pi_xt, is_59, gi_mco, pi_mco, gi_mev, pi_mev, gr_59_2, gr_59_3, gi_mgt, pi_mgt, gr_59_5, gr_59_6, gr_59_7, gr_59_8, gi_mtp, pi_mtp, gr_59_10, gr_59_11, gr_59_12, gr_59_13, gr_59_14, gr_59_15, gi_mmy, pi_mmy, gr_59_17, gr_59_18, sS1, if_true, upd_at, if_neg (show ¬ (0 : Int32) < 0 by decide), w5, e2]
          · rw [w74]; rfl
        · omega
      · have b4 := a2 (by omega)
        obtain ⟨W, L, IW, w74, wL, w2⟩ := M_fails1 (fu := fu) (S := sS T 59 0 0) (IT.code 0) ht hfu
        have := hL0.uq wL
        subst this
        rcases w2 with ⟨w3, -⟩ | ⟨-, w3, w5⟩
        · omega
        · refine ⟨3, T, 0, W, ?_, ?_, w3, fun h => absurd h (by decide), A, r, IW⟩
          · simp only [f_L_primes, eL, Option.bind_some, is_0, gr_0_0, gr_0_1, gr_0_2, gr_0_3, gr_0_4, gr_0_5, gi_tp, pi_tp, gi_tf, pi_tf, gi_xf, pi_xf, is_1, gr_1_0, gr_1_1, gi_en, pi_en, is_4, gr_4_0, gr_4_1, gr_4_2, gr_4_3, gi_gn, pi_gn, is_9, gr_9_0, gr_9_1, gi_ts, pi_ts, gi_tw, pi_tw, gi_tc, pi_tc, is_40, gr_40_0, is_42, gr_42_0, gr_42_1, gi_dn, pi_dn, is_45, gr_45_0, gr_45_1, gi_xw, pi_xw, gi_xn, pi_xn, gi_xt, pi_xt, is_59, gi_mco, pi_mco, gi_mev, pi_mev, gr_59_2, gr_59_3, gi_mgt, pi_mgt, gr_59_5, gr_59_6, gr_59_7, gr_59_8, gi_mtp, pi_mtp, gr_59_10, gr_59_11, gr_59_12, gr_59_13, gr_59_14, gr_59_15, gi_mmy, pi_mmy, gr_59_17, gr_59_18, F_needTop (t := some t) (fun k h => by obtain rfl := Option.some.inj h; omega) hT, hx_inr, eT, b4, if_neg (show ¬ (1 : Int32) = 0 by decide), hx_inl, hl_inl]; rfl
          · simp only [eM, f_M_primes_16, f_M_primes_34, Option.bind_some, is_0, gr_0_0, gr_0_1, gr_0_2, gr_0_3, gr_0_4, gr_0_5, gi_tp, pi_tp, gi_tf, pi_tf, gi_xf, pi_xf, is_1, gr_1_0, gr_1_1, gi_en, pi_en, is_4, gr_4_0, gr_4_1, gr_4_2, gr_4_3, gi_gn, pi_gn, is_9, gr_9_0, gr_9_1, gi_ts, pi_ts, gi_tw, pi_tw, gi_tc, pi_tc, is_40, gr_40_0, is_42, gr_42_0, gr_42_1, gi_dn, pi_dn, is_45, gr_45_0, gr_45_1, gi_xw, pi_xw, gi_xn, pi_xn, gi_xt, pi_xt, is_59, gi_mco, pi_mco, gi_mev, pi_mev, gr_59_2, gr_59_3, gi_mgt, pi_mgt, gr_59_5, gr_59_6, gr_59_7, gr_59_8, gi_mtp, pi_mtp, gr_59_10, gr_59_11, gr_59_12, gr_59_13, gr_59_14, gr_59_15, gi_mmy, pi_mmy, gr_59_17, gr_59_18, sS1, if_true, upd_at, if_neg (show ¬ (0 : Int32) < 0 by decide), w5, if_neg (show ¬ (1 : Int32) = 0 by decide)]
theorem on_k {k : Nat} (hk : k < 2147483648) : (n32 k >>> ((10 : Int32) &&& 31)) &&& (1023 : Int32) = n32 (k / 1024 % 1024) := by
  have h1 : n32 k >>> ((10 : Int32) &&& 31) = n32 (k / 1024) := by
    have := n32_sar (a := k) (k := 10) hk (by omega)
    rw [Nat.shiftRight_eq_div_pow] at this; exact this
  rw [h1, show (1023 : Int32) = n32 (2 ^ 10 - 1) from rfl, n32_and (by omega), Nat.and_two_pow_sub_one_eq_mod]
theorem off_k {k : Nat} (hk : k < 2147483648) : n32 k &&& (1023 : Int32) = n32 (k % 1024) := by
  rw [show (1023 : Int32) = n32 (2 ^ 10 - 1) from rfl, n32_and (by omega), Nat.and_two_pow_sub_one_eq_mod]
theorem X_cw {L : List Nat} {v : Nat} (hL : L.length ≤ 300) (hlt : ∀ k, k ∈ L → k < 2147483648) (h3 : S.1 45 3 = n32 L.length) (h46 : ∀ (j : Nat) (h : j < L.length), S.2.1 46 j = n32 (L[j])) (hv : v < 10) (hfu : 2000 ≤ fu) : f_X_countWith fu 45 (n32 v) (enc S) = some (n32 (L.countP (fun k => bt (n32 (k / 1024 % 1024) ||| n32 (k % 1024)) v)), enc S) := by
  obtain ⟨y, hy, m, e1⟩ := lp0 (F := fun m j y => f_X_countWith_4 fu m 45 (n32 v) (n32 y) (n32 j) (enc S)) (I := fun j y => y = (L.take j).countP (fun k => bt (n32 (k / 1024 % 1024) ||| n32 (k % 1024)) v)) (N := L.length) (n := fu) (s := 0) (by omega) rfl (fun m j y hj hI => by
    obtain rfl := hI
    have hle : ¬ n32 L.length ≤ n32 j := by rw [n32_le (by omega) (by omega)]; omega
    have hk := hlt _ (List.getElem_mem hj)
    refine ⟨_, rfl, ?_⟩
    rw [take_cnt hj]
    cases hq : bt (n32 (L[j] / 1024 % 1024) ||| n32 (L[j] % 1024)) v with
    | true =>
      rw [if_pos rfl]
      simp only [f_X_countWith_4, f_X_countWith_33, f_X_onOf, f_X_offOf, Option.bind_some, is_0, gr_0_0, gr_0_1, gr_0_2, gr_0_3, gr_0_4, gr_0_5, gi_tp, pi_tp, gi_tf, pi_tf, gi_xf, pi_xf, is_1, gr_1_0, gr_1_1, gi_en, pi_en, is_4, gr_4_0, gr_4_1, gr_4_2, gr_4_3, gi_gn, pi_gn, is_9, gr_9_0, gr_9_1, gi_ts, pi_ts, gi_tw, pi_tw, gi_tc, pi_tc, is_40, gr_40_0, is_42, gr_42_0, gr_42_1, gi_dn, pi_dn, is_45, gr_45_0, gr_45_1, gi_xw, pi_xw, gi_xn, pi_xn, gi_xt, pi_xt, is_59, gi_mco, pi_mco, gi_mev, pi_mev, gr_59_2, gr_59_3, gi_mgt, pi_mgt, gr_59_5, gr_59_6, gr_59_7, gr_59_8, gi_mtp, pi_mtp, gr_59_10, gr_59_11, gr_59_12, gr_59_13, gr_59_14, gr_59_15, gi_mmy, pi_mmy, gr_59_17, gr_59_18, h3, if_neg hle, rd_ky (show j < 300 by omega), h46 j hj, on_k hk, off_k hk, if_neg (show ¬ (((n32 (L[j] / 1024 % 1024) ||| n32 (L[j] % 1024)) >>> (n32 v &&& 31)) &&& (1 : Int32)) = 0 from fun q => by rw [ts_0 (by omega), hq] at q; cases q), nl_add]
    | false =>
      rw [if_neg (by decide)]
      simp only [f_X_countWith_4, f_X_countWith_33, f_X_onOf, f_X_offOf, Option.bind_some, is_0, gr_0_0, gr_0_1, gr_0_2, gr_0_3, gr_0_4, gr_0_5, gi_tp, pi_tp, gi_tf, pi_tf, gi_xf, pi_xf, is_1, gr_1_0, gr_1_1, gi_en, pi_en, is_4, gr_4_0, gr_4_1, gr_4_2, gr_4_3, gi_gn, pi_gn, is_9, gr_9_0, gr_9_1, gi_ts, pi_ts, gi_tw, pi_tw, gi_tc, pi_tc, is_40, gr_40_0, is_42, gr_42_0, gr_42_1, gi_dn, pi_dn, is_45, gr_45_0, gr_45_1, gi_xw, pi_xw, gi_xn, pi_xn, gi_xt, pi_xt, is_59, gi_mco, pi_mco, gi_mev, pi_mev, gr_59_2, gr_59_3, gi_mgt, pi_mgt, gr_59_5, gr_59_6, gr_59_7, gr_59_8, gi_mtp, pi_mtp, gr_59_10, gr_59_11, gr_59_12, gr_59_13, gr_59_14, gr_59_15, gi_mmy, pi_mmy, gr_59_17, gr_59_18, h3, if_neg hle, rd_ky (show j < 300 by omega), h46 j hj, on_k hk, off_k hk, if_pos ((ts_0 (show v < 32 by omega)).mpr hq), nl_add, Nat.add_zero])
  obtain rfl := hy
  refine Eq.trans e1 ?_
  simp only [f_X_countWith_4, Option.bind_some, is_0, gr_0_0, gr_0_1, gr_0_2, gr_0_3, gr_0_4, gr_0_5, gi_tp, pi_tp, gi_tf, pi_tf, gi_xf, pi_xf, is_1, gr_1_0, gr_1_1, gi_en, pi_en, is_4, gr_4_0, gr_4_1, gr_4_2, gr_4_3, gi_gn, pi_gn, is_9, gr_9_0, gr_9_1, gi_ts, pi_ts, gi_tw, pi_tw, gi_tc, pi_tc, is_40, gr_40_0, is_42, gr_42_0, gr_42_1, gi_dn, pi_dn, is_45, gr_45_0, gr_45_1, gi_xw, pi_xw, gi_xn, pi_xn, gi_xt, pi_xt, is_59, gi_mco, pi_mco, gi_mev, pi_mev, gr_59_2, gr_59_3, gi_mgt, pi_mgt, gr_59_5, gr_59_6, gr_59_7, gr_59_8, gi_mtp, pi_mtp, gr_59_10, gr_59_11, gr_59_12, gr_59_13, gr_59_14, gr_59_15, gi_mmy, pi_mmy, gr_59_17, gr_59_18, h3, if_pos (show n32 L.length ≤ n32 L.length from (n32_le (by omega) (by omega)).mpr (Nat.le_refl _)), List.take_length]
theorem M_s38 {L : List Nat} {v : Nat} (hL : L.length ≤ 300) (H : ML S L) (hv : v < 10) (hfu : 2000 ≤ fu) : f_M_share_38 fu fu 59 (n32 v) 0 0 (enc S) = some (n32 (L.countP (fun k => bt (n32 (k / 1024 % 1024) ||| n32 (k % 1024)) v)), enc S) := by
  obtain ⟨y, hy, m, e1⟩ := lp0 (F := fun m j y => f_M_share_38 fu m 59 (n32 v) (n32 y) (n32 j) (enc S)) (I := fun j y => y = (L.take j).countP (fun k => bt (n32 (k / 1024 % 1024) ||| n32 (k % 1024)) v)) (N := L.length) (n := fu) (s := 0) (by omega) rfl (fun m j y hj hI => by
    obtain rfl := hI
    have hle : ¬ n32 L.length ≤ n32 j := by rw [n32_le (by omega) (by omega)]; omega
    obtain ⟨r1, r2⟩ := H.2 j hj
    refine ⟨_, rfl, ?_⟩
    rw [take_cnt hj]
    cases hq : bt (n32 (L[j] / 1024 % 1024) ||| n32 (L[j] % 1024)) v with
    | true =>
      rw [if_pos rfl]
      simp only [f_M_share_38, f_M_share_73, Option.bind_some, is_0, gr_0_0, gr_0_1, gr_0_2, gr_0_3, gr_0_4, gr_0_5, gi_tp, pi_tp, gi_tf, pi_tf, gi_xf, pi_xf, is_1, gr_1_0, gr_1_1, gi_en, pi_en, is_4, gr_4_0, gr_4_1, gr_4_2, gr_4_3, gi_gn, pi_gn, is_9, gr_9_0, gr_9_1, gi_ts, pi_ts, gi_tw, pi_tw, gi_tc, pi_tc, is_40, gr_40_0, is_42, gr_42_0, gr_42_1, gi_dn, pi_dn, is_45, gr_45_0, gr_45_1, gi_xw, pi_xw, gi_xn, pi_xn, gi_xt, pi_xt, is_59, gi_mco, pi_mco, gi_mev, pi_mev, gr_59_2, gr_59_3, gi_mgt, pi_mgt, gr_59_5, gr_59_6, gr_59_7, gr_59_8, gi_mtp, pi_mtp, gr_59_10, gr_59_11, gr_59_12, gr_59_13, gr_59_14, gr_59_15, gi_mmy, pi_mmy, gr_59_17, gr_59_18, H.1, if_neg hle, rd_mos (show j < 301 by omega), rd_mof (show j < 301 by omega), r1, r2, if_pos ((ts_1 (show v < 32 by omega)).mpr hq), nl_add]
    | false =>
      rw [if_neg (by decide)]
      simp only [f_M_share_38, f_M_share_73, Option.bind_some, is_0, gr_0_0, gr_0_1, gr_0_2, gr_0_3, gr_0_4, gr_0_5, gi_tp, pi_tp, gi_tf, pi_tf, gi_xf, pi_xf, is_1, gr_1_0, gr_1_1, gi_en, pi_en, is_4, gr_4_0, gr_4_1, gr_4_2, gr_4_3, gi_gn, pi_gn, is_9, gr_9_0, gr_9_1, gi_ts, pi_ts, gi_tw, pi_tw, gi_tc, pi_tc, is_40, gr_40_0, is_42, gr_42_0, gr_42_1, gi_dn, pi_dn, is_45, gr_45_0, gr_45_1, gi_xw, pi_xw, gi_xn, pi_xn, gi_xt, pi_xt, is_59, gi_mco, pi_mco, gi_mev, pi_mev, gr_59_2, gr_59_3, gi_mgt, pi_mgt, gr_59_5, gr_59_6, gr_59_7, gr_59_8, gi_mtp, pi_mtp, gr_59_10, gr_59_11, gr_59_12, gr_59_13, gr_59_14, gr_59_15, gi_mmy, pi_mmy, gr_59_17, gr_59_18, H.1, if_neg hle, rd_mos (show j < 301 by omega), rd_mof (show j < 301 by omega), r1, r2, if_neg (show ¬ (((n32 (L[j] / 1024 % 1024) ||| n32 (L[j] % 1024)) >>> (n32 v &&& 31)) &&& (1 : Int32)) = 1 from fun q => by rw [ts_1 (by omega), hq] at q; cases q), nl_add, Nat.add_zero])
  obtain rfl := hy
  refine Eq.trans e1 ?_
  simp only [f_M_share_38, Option.bind_some, is_0, gr_0_0, gr_0_1, gr_0_2, gr_0_3, gr_0_4, gr_0_5, gi_tp, pi_tp, gi_tf, pi_tf, gi_xf, pi_xf, is_1, gr_1_0, gr_1_1, gi_en, pi_en, is_4, gr_4_0, gr_4_1, gr_4_2, gr_4_3, gi_gn, pi_gn, is_9, gr_9_0, gr_9_1, gi_ts, pi_ts, gi_tw, pi_tw, gi_tc, pi_tc, is_40, gr_40_0, is_42, gr_42_0, gr_42_1, gi_dn, pi_dn, is_45, gr_45_0, gr_45_1, gi_xw, pi_xw, gi_xn, pi_xn, gi_xt, pi_xt, is_59, gi_mco, pi_mco, gi_mev, pi_mev, gr_59_2, gr_59_3, gi_mgt, pi_mgt, gr_59_5, gr_59_6, gr_59_7, gr_59_8, gi_mtp, pi_mtp, gr_59_10, gr_59_11, gr_59_12, gr_59_13, gr_59_14, gr_59_15, gi_mmy, pi_mmy, gr_59_17, gr_59_18, H.1, if_pos (show n32 L.length ≤ n32 L.length from (n32_le (by omega) (by omega)).mpr (Nat.le_refl _)), List.take_length]
theorem c_share (I : Inv S A r) (v : Int32) (hfu : 60000 ≤ fu) : Cas (f_L_share fu 0 v 74) (f_M_share fu 59 v) S := by
  obtain ⟨O, D, M, -, -⟩ := id I
  have hT := D.2.2.2.2.2.1
  have hE := O.1
  have hG := O.2.1
  cases hv : vd (aE A) v with
  | false =>
    refine Cas.no I (k := 1) (by decide) ?_ ?_
    · simp only [f_L_share, f_F_share, Option.bind_some, is_0, gr_0_0, gr_0_1, gr_0_2, gr_0_3, gr_0_4, gr_0_5, gi_tp, pi_tp, gi_tf, pi_tf, gi_xf, pi_xf, is_1, gr_1_0, gr_1_1, gi_en, pi_en, is_4, gr_4_0, gr_4_1, gr_4_2, gr_4_3, gi_gn, pi_gn, is_9, gr_9_0, gr_9_1, gi_ts, pi_ts, gi_tw, pi_tw, gi_tc, pi_tc, is_40, gr_40_0, is_42, gr_42_0, gr_42_1, gi_dn, pi_dn, is_45, gr_45_0, gr_45_1, gi_xw, pi_xw, gi_xn, pi_xn, gi_xt, pi_xt, is_59, gi_mco, pi_mco, gi_mev, pi_mev, gr_59_2, gr_59_3, gi_mgt, pi_mgt, gr_59_5, gr_59_6, gr_59_7, gr_59_8, gi_mtp, pi_mtp, gr_59_10, gr_59_11, gr_59_12, gr_59_13, gr_59_14, gr_59_15, gi_mmy, pi_mmy, gr_59_17, gr_59_18, F_needEvent D.1, hv, if_neg (show ¬ false = true by decide), hx_inl, hl_inl, if_true]
    · simp only [f_M_share, Option.bind_some, is_0, gr_0_0, gr_0_1, gr_0_2, gr_0_3, gr_0_4, gr_0_5, gi_tp, pi_tp, gi_tf, pi_tf, gi_xf, pi_xf, is_1, gr_1_0, gr_1_1, gi_en, pi_en, is_4, gr_4_0, gr_4_1, gr_4_2, gr_4_3, gi_gn, pi_gn, is_9, gr_9_0, gr_9_1, gi_ts, pi_ts, gi_tw, pi_tw, gi_tc, pi_tc, is_40, gr_40_0, is_42, gr_42_0, gr_42_1, gi_dn, pi_dn, is_45, gr_45_0, gr_45_1, gi_xw, pi_xw, gi_xn, pi_xn, gi_xt, pi_xt, is_59, gi_mco, pi_mco, gi_mev, pi_mev, gr_59_2, gr_59_3, gi_mgt, pi_mgt, gr_59_5, gr_59_6, gr_59_7, gr_59_8, gi_mtp, pi_mtp, gr_59_10, gr_59_11, gr_59_12, gr_59_13, gr_59_14, gr_59_15, gi_mmy, pi_mmy, gr_59_17, gr_59_18, M_isEvent M.1, hv, show b32 false = (0 : Int32) from rfl, if_true, f_M_share_14, f_M_share_32, sS1, upd_at, if_pos (show (0 : Int32) < 1 by decide)]
  | true =>
    obtain ⟨e0, he, rfl⟩ := vd_of (by omega) hv
    have eM : ∀ {Z : Ws}, Z.1 59 1 = n32 (aE A) → f_M_share fu 59 (n32 e0) (enc Z) = f_M_share_14 fu 59 (n32 e0) 59 0 (enc Z) := fun {Z} hz => by
      simp only [f_M_share, Option.bind_some, is_0, gr_0_0, gr_0_1, gr_0_2, gr_0_3, gr_0_4, gr_0_5, gi_tp, pi_tp, gi_tf, pi_tf, gi_xf, pi_xf, is_1, gr_1_0, gr_1_1, gi_en, pi_en, is_4, gr_4_0, gr_4_1, gr_4_2, gr_4_3, gi_gn, pi_gn, is_9, gr_9_0, gr_9_1, gi_ts, pi_ts, gi_tw, pi_tw, gi_tc, pi_tc, is_40, gr_40_0, is_42, gr_42_0, gr_42_1, gi_dn, pi_dn, is_45, gr_45_0, gr_45_1, gi_xw, pi_xw, gi_xn, pi_xn, gi_xt, pi_xt, is_59, gi_mco, pi_mco, gi_mev, pi_mev, gr_59_2, gr_59_3, gi_mgt, pi_mgt, gr_59_5, gr_59_6, gr_59_7, gr_59_8, gi_mtp, pi_mtp, gr_59_10, gr_59_11, gr_59_12, gr_59_13, gr_59_14, gr_59_15, gi_mmy, pi_mmy, gr_59_17, gr_59_18, M_isEvent hz, hv, show b32 true = (1 : Int32) from rfl, if_neg (show ¬ (1 : Int32) = 0 by decide)]
    cases ht : aT A with
    | none =>
      rw [ht] at hT
      refine ⟨2, S, 0, sS (sS S 59 0 0) 59 0 2, ?_, ?_, rfl, fun h => absurd h (by decide), A, r, (I.code 0).code 2⟩
      · simp only [f_L_share, f_F_share, Option.bind_some, is_0, gr_0_0, gr_0_1, gr_0_2, gr_0_3, gr_0_4, gr_0_5, gi_tp, pi_tp, gi_tf, pi_tf, gi_xf, pi_xf, is_1, gr_1_0, gr_1_1, gi_en, pi_en, is_4, gr_4_0, gr_4_1, gr_4_2, gr_4_3, gi_gn, pi_gn, is_9, gr_9_0, gr_9_1, gi_ts, pi_ts, gi_tw, pi_tw, gi_tc, pi_tc, is_40, gr_40_0, is_42, gr_42_0, gr_42_1, gi_dn, pi_dn, is_45, gr_45_0, gr_45_1, gi_xw, pi_xw, gi_xn, pi_xn, gi_xt, pi_xt, is_59, gi_mco, pi_mco, gi_mev, pi_mev, gr_59_2, gr_59_3, gi_mgt, pi_mgt, gr_59_5, gr_59_6, gr_59_7, gr_59_8, gi_mtp, pi_mtp, gr_59_10, gr_59_11, gr_59_12, gr_59_13, gr_59_14, gr_59_15, gi_mmy, pi_mmy, gr_59_17, gr_59_18, F_needEvent D.1, hv, if_true, hx_inr, F_needTop (t := none) (fun _ h => by cases h) hT, hx_inl, hl_inl]; rfl
      · have hf0 := M_fails0 (fu := fu) (I.code 0).2.2.1 ht
        simp only [eM M.1, f_M_share_14, f_M_share_32, Option.bind_some, is_0, gr_0_0, gr_0_1, gr_0_2, gr_0_3, gr_0_4, gr_0_5, gi_tp, pi_tp, gi_tf, pi_tf, gi_xf, pi_xf, is_1, gr_1_0, gr_1_1, gi_en, pi_en, is_4, gr_4_0, gr_4_1, gr_4_2, gr_4_3, gi_gn, pi_gn, is_9, gr_9_0, gr_9_1, gi_ts, pi_ts, gi_tw, pi_tw, gi_tc, pi_tc, is_40, gr_40_0, is_42, gr_42_0, gr_42_1, gi_dn, pi_dn, is_45, gr_45_0, gr_45_1, gi_xw, pi_xw, gi_xn, pi_xn, gi_xt, pi_xt, is_59, gi_mco, pi_mco, gi_mev, pi_mev, gr_59_2, gr_59_3, gi_mgt, pi_mgt, gr_59_5, gr_59_6, gr_59_7, gr_59_8, gi_mtp, pi_mtp, gr_59_10, gr_59_11, gr_59_12, gr_59_13, gr_59_14, gr_59_15, gi_mmy, pi_mmy, gr_59_17, gr_59_18, sS1, if_true, upd_at, if_neg (show ¬ (0 : Int32) < 0 by decide), hf0, if_neg (show ¬ (1 : Int32) = 0 by decide)]
    | some t =>
      have htg := O.2.2.2.2.2.2.2 t ht
      rw [ht] at hT
      obtain ⟨T, IT, h74, hTm, eT⟩ := F_terms (fu := fu) I ht (by omega)
      obtain ⟨L0, hL0⟩ := PrL_ex (f := fun s => evR A r s t) hE
      obtain ⟨a1, a2⟩ := hTm.l ht hL0
      by_cases h300 : L0.length ≤ 300
      · obtain ⟨b1, b2, b3⟩ := a1 h300
        have e1 := X_cw (fu := fu) (S := T) (v := e0) h300 (fun k hk => hL0.lt hE hk) b1 b3 (by omega) (by omega)
        generalize hN : L0.countP (fun k => bt (n32 (k / 1024 % 1024) ||| n32 (k % 1024)) e0) = N at e1
        obtain ⟨W, L, IW, w74, wL, w2⟩ := M_fails1 (fu := fu) (S := sS (sL T 74 0 (n32 N).toInt64) 59 0 0) ((IT.out _).code 0) ht hfu
        have := hL0.uq wL
        subst this
        rcases w2 with ⟨-, w3, w4, w5⟩ | ⟨w3, -⟩
        · refine ⟨0, sL T 74 0 (n32 N).toInt64, n32 N, W, ?_, ?_, w3, fun _ => ?_, A, r, IW⟩
          · simp only [f_L_share, f_F_share, Option.bind_some, is_0, gr_0_0, gr_0_1, gr_0_2, gr_0_3, gr_0_4, gr_0_5, gi_tp, pi_tp, gi_tf, pi_tf, gi_xf, pi_xf, is_1, gr_1_0, gr_1_1, gi_en, pi_en, is_4, gr_4_0, gr_4_1, gr_4_2, gr_4_3, gi_gn, pi_gn, is_9, gr_9_0, gr_9_1, gi_ts, pi_ts, gi_tw, pi_tw, gi_tc, pi_tc, is_40, gr_40_0, is_42, gr_42_0, gr_42_1, gi_dn, pi_dn, is_45, gr_45_0, gr_45_1, gi_xw, pi_xw, gi_xn, pi_xn, gi_xt, pi_xt, is_59, gi_mco, pi_mco, gi_mev, pi_mev, gr_59_2, gr_59_3, gi_mgt, pi_mgt, gr_59_5, gr_59_6, gr_59_7, gr_59_8, gi_mtp, pi_mtp, gr_59_10, gr_59_11, gr_59_12, gr_59_13, gr_59_14, gr_59_15, gi_mmy, pi_mmy, gr_59_17, gr_59_18, F_needEvent D.1, hv, if_true, hx_inr, F_needTop (t := some t) (fun k h => by obtain rfl := Option.some.inj h; omega) hT, eT, b2, e1, hl_inr, wr_out0]
          · have e2 := M_s38 (fu := fu) (S := W) (v := e0) h300 w4 (by omega) (by omega)
            rw [hN] at e2
            simp only [eM (IT.out _).2.2.1.1, f_M_share_14, Option.bind_some, is_0, gr_0_0, gr_0_1, gr_0_2, gr_0_3, gr_0_4, gr_0_5, gi_tp, pi_tp, gi_tf, pi_tf, gi_xf, pi_xf, is_1, gr_1_0, gr_1_1, gi_en, pi_en, is_4, gr_4_0, gr_4_1, gr_4_2, gr_4_3, gi_gn, pi_gn, is_9, gr_9_0, gr_9_1, gi_ts, pi_ts, gi_tw, pi_tw, gi_tc, pi_tc, is_40, gr_40_0, is_42, gr_42_0, gr_42_1, gi_dn, pi_dn, is_45, gr_45_0, gr_45_1, gi_xw, pi_xw, gi_xn, pi_xn, gi_xt, pi_xt, is_59, gi_mco, pi_mco, gi_mev, pi_mev, gr_59_2, gr_59_3, gi_mgt, pi_mgt, gr_59_5, gr_59_6, gr_59_7, gr_59_8, gi_mtp, pi_mtp, gr_59_10, gr_59_11, gr_59_12, gr_59_13, gr_59_14, gr_59_15, gi_mmy, pi_mmy, gr_59_17, gr_59_18, sS1, if_true, upd_at, if_neg (show ¬ (0 : Int32) < 0 by decide), w5, e2]
          · rw [w74]; rfl
        · omega
      · have b4 := a2 (by omega)
        obtain ⟨W, L, IW, w74, wL, w2⟩ := M_fails1 (fu := fu) (S := sS T 59 0 0) (IT.code 0) ht hfu
        have := hL0.uq wL
        subst this
        rcases w2 with ⟨w3, -⟩ | ⟨-, w3, w5⟩
        · omega
        · refine ⟨3, T, 0, W, ?_, ?_, w3, fun h => absurd h (by decide), A, r, IW⟩
          · simp only [f_L_share, f_F_share, Option.bind_some, is_0, gr_0_0, gr_0_1, gr_0_2, gr_0_3, gr_0_4, gr_0_5, gi_tp, pi_tp, gi_tf, pi_tf, gi_xf, pi_xf, is_1, gr_1_0, gr_1_1, gi_en, pi_en, is_4, gr_4_0, gr_4_1, gr_4_2, gr_4_3, gi_gn, pi_gn, is_9, gr_9_0, gr_9_1, gi_ts, pi_ts, gi_tw, pi_tw, gi_tc, pi_tc, is_40, gr_40_0, is_42, gr_42_0, gr_42_1, gi_dn, pi_dn, is_45, gr_45_0, gr_45_1, gi_xw, pi_xw, gi_xn, pi_xn, gi_xt, pi_xt, is_59, gi_mco, pi_mco, gi_mev, pi_mev, gr_59_2, gr_59_3, gi_mgt, pi_mgt, gr_59_5, gr_59_6, gr_59_7, gr_59_8, gi_mtp, pi_mtp, gr_59_10, gr_59_11, gr_59_12, gr_59_13, gr_59_14, gr_59_15, gi_mmy, pi_mmy, gr_59_17, gr_59_18, F_needEvent D.1, hv, if_true, hx_inr, F_needTop (t := some t) (fun k h => by obtain rfl := Option.some.inj h; omega) hT, eT, b4, if_neg (show ¬ (1 : Int32) = 0 by decide), hx_inl, hl_inl]; rfl
          · simp only [eM IT.2.2.1.1, f_M_share_14, f_M_share_32, Option.bind_some, is_0, gr_0_0, gr_0_1, gr_0_2, gr_0_3, gr_0_4, gr_0_5, gi_tp, pi_tp, gi_tf, pi_tf, gi_xf, pi_xf, is_1, gr_1_0, gr_1_1, gi_en, pi_en, is_4, gr_4_0, gr_4_1, gr_4_2, gr_4_3, gi_gn, pi_gn, is_9, gr_9_0, gr_9_1, gi_ts, pi_ts, gi_tw, pi_tw, gi_tc, pi_tc, is_40, gr_40_0, is_42, gr_42_0, gr_42_1, gi_dn, pi_dn, is_45, gr_45_0, gr_45_1, gi_xw, pi_xw, gi_xn, pi_xn, gi_xt, pi_xt, is_59, gi_mco, pi_mco, gi_mev, pi_mev, gr_59_2, gr_59_3, gi_mgt, pi_mgt, gr_59_5, gr_59_6, gr_59_7, gr_59_8, gi_mtp, pi_mtp, gr_59_10, gr_59_11, gr_59_12, gr_59_13, gr_59_14, gr_59_15, gi_mmy, pi_mmy, gr_59_17, gr_59_18, sS1, if_true, upd_at, if_neg (show ¬ (0 : Int32) < 0 by decide), w5, if_neg (show ¬ (1 : Int32) = 0 by decide)]
theorem c_prime (I : Inv S A r) (v u : Int32) (hfu : 60000 ≤ fu) : Cas (f_L_prime fu 0 v u 74) (f_M_prime fu 59 v u) S := by
  obtain ⟨O, D, M, -, -⟩ := id I
  have hT := D.2.2.2.2.2.1
  have hE := O.1
  have hG := O.2.1
  cases hu : vd 2 u with
  | false =>
    have hu0 : ¬ u = 0 := fun e => by rw [e, show vd 2 0 = true from by decide] at hu; cases hu
    have hu1 : ¬ u = 1 := fun e => by rw [e, show vd 2 1 = true from by decide] at hu; cases hu
    refine Cas.no I (k := 1) (by decide) ?_ ?_
    · simp only [f_L_prime, f_F_prime, Option.bind_some, is_0, gr_0_0, gr_0_1, gr_0_2, gr_0_3, gr_0_4, gr_0_5, gi_tp, pi_tp, gi_tf, pi_tf, gi_xf, pi_xf, is_1, gr_1_0, gr_1_1, gi_en, pi_en, is_4, gr_4_0, gr_4_1, gr_4_2, gr_4_3, gi_gn, pi_gn, is_9, gr_9_0, gr_9_1, gi_ts, pi_ts, gi_tw, pi_tw, gi_tc, pi_tc, is_40, gr_40_0, is_42, gr_42_0, gr_42_1, gi_dn, pi_dn, is_45, gr_45_0, gr_45_1, gi_xw, pi_xw, gi_xn, pi_xn, gi_xt, pi_xt, is_59, gi_mco, pi_mco, gi_mev, pi_mev, gr_59_2, gr_59_3, gi_mgt, pi_mgt, gr_59_5, gr_59_6, gr_59_7, gr_59_8, gi_mtp, pi_mtp, gr_59_10, gr_59_11, gr_59_12, gr_59_13, gr_59_14, gr_59_15, gi_mmy, pi_mmy, gr_59_17, gr_59_18, if_neg hu0, if_neg hu1, hl_inl, if_true]
    · simp only [f_M_prime, f_M_prime_10]
      rw [vd_if2 (k := 1) (by omega), if_neg (by rw [hu]; decide)]
      simp only [f_M_prime_15, f_M_prime_33, Option.bind_some, is_0, gr_0_0, gr_0_1, gr_0_2, gr_0_3, gr_0_4, gr_0_5, gi_tp, pi_tp, gi_tf, pi_tf, gi_xf, pi_xf, is_1, gr_1_0, gr_1_1, gi_en, pi_en, is_4, gr_4_0, gr_4_1, gr_4_2, gr_4_3, gi_gn, pi_gn, is_9, gr_9_0, gr_9_1, gi_ts, pi_ts, gi_tw, pi_tw, gi_tc, pi_tc, is_40, gr_40_0, is_42, gr_42_0, gr_42_1, gi_dn, pi_dn, is_45, gr_45_0, gr_45_1, gi_xw, pi_xw, gi_xn, pi_xn, gi_xt, pi_xt, is_59, gi_mco, pi_mco, gi_mev, pi_mev, gr_59_2, gr_59_3, gi_mgt, pi_mgt, gr_59_5, gr_59_6, gr_59_7, gr_59_8, gi_mtp, pi_mtp, gr_59_10, gr_59_11, gr_59_12, gr_59_13, gr_59_14, gr_59_15, gi_mmy, pi_mmy, gr_59_17, gr_59_18, sS1, if_true, upd_at, if_pos (show (0 : Int32) < 1 by decide)]
  | true =>
    have hu01 : u = 0 ∨ u = 1 := by
      obtain ⟨k, hk, rfl⟩ := vd_of (by omega) hu
      rcases (show k = 0 ∨ k = 1 by omega) with h | h
      · left; rw [h]; rfl
      · right; rw [h]; rfl
    have eL : f_F_prime fu 0 v u (enc S) = f_F_prime_19 fu 0 v u (enc S) := by
      unfold f_F_prime
      rcases hu01 with h | h
      · rw [if_pos h]
      · rw [if_neg (by rw [h]; decide), if_pos h]
    have eM : ∀ w, f_M_prime fu 59 v u w = f_M_prime_15 fu 59 v u 59 0 w := fun w => by
      unfold f_M_prime
      rw [vd_if2 (k := 1) (by omega), if_pos hu]
    cases ht : aT A with
    | none =>
      rw [ht] at hT
      refine ⟨2, S, 0, sS (sS S 59 0 0) 59 0 2, ?_, ?_, rfl, fun h => absurd h (by decide), A, r, (I.code 0).code 2⟩
      · simp only [f_L_prime, eL, f_F_prime_19, Option.bind_some, is_0, gr_0_0, gr_0_1, gr_0_2, gr_0_3, gr_0_4, gr_0_5, gi_tp, pi_tp, gi_tf, pi_tf, gi_xf, pi_xf, is_1, gr_1_0, gr_1_1, gi_en, pi_en, is_4, gr_4_0, gr_4_1, gr_4_2, gr_4_3, gi_gn, pi_gn, is_9, gr_9_0, gr_9_1, gi_ts, pi_ts, gi_tw, pi_tw, gi_tc, pi_tc, is_40, gr_40_0, is_42, gr_42_0, gr_42_1, gi_dn, pi_dn, is_45, gr_45_0, gr_45_1, gi_xw, pi_xw, gi_xn, pi_xn, gi_xt, pi_xt, is_59, gi_mco, pi_mco, gi_mev, pi_mev, gr_59_2, gr_59_3, gi_mgt, pi_mgt, gr_59_5, gr_59_6, gr_59_7, gr_59_8, gi_mtp, pi_mtp, gr_59_10, gr_59_11, gr_59_12, gr_59_13, gr_59_14, gr_59_15, gi_mmy, pi_mmy, gr_59_17, gr_59_18, F_needTop (t := none) (fun _ h => by cases h) hT, hx_inl, hl_inl]; rfl
      · have hf0 := M_fails0 (fu := fu) (I.code 0).2.2.1 ht
        simp only [eM, f_M_prime_15, f_M_prime_33, Option.bind_some, is_0, gr_0_0, gr_0_1, gr_0_2, gr_0_3, gr_0_4, gr_0_5, gi_tp, pi_tp, gi_tf, pi_tf, gi_xf, pi_xf, is_1, gr_1_0, gr_1_1, gi_en, pi_en, is_4, gr_4_0, gr_4_1, gr_4_2, gr_4_3, gi_gn, pi_gn, is_9, gr_9_0, gr_9_1, gi_ts, pi_ts, gi_tw, pi_tw, gi_tc, pi_tc, is_40, gr_40_0, is_42, gr_42_0, gr_42_1, gi_dn, pi_dn, is_45, gr_45_0, gr_45_1, gi_xw, pi_xw, gi_xn, pi_xn, gi_xt, pi_xt, is_59, gi_mco, pi_mco, gi_mev, pi_mev, gr_59_2, gr_59_3, gi_mgt, pi_mgt, gr_59_5, gr_59_6, gr_59_7, gr_59_8, gi_mtp, pi_mtp, gr_59_10, gr_59_11, gr_59_12, gr_59_13, gr_59_14, gr_59_15, gi_mmy, pi_mmy, gr_59_17, gr_59_18, sS1, if_true, upd_at, if_neg (show ¬ (0 : Int32) < 0 by decide), hf0, if_neg (show ¬ (1 : Int32) = 0 by decide)]
    | some t =>
      have htg := O.2.2.2.2.2.2.2 t ht
      rw [ht] at hT
      obtain ⟨T, IT, h74, hTm, eT⟩ := F_terms (fu := fu) I ht (by omega)
      obtain ⟨L0, hL0⟩ := PrL_ex (f := fun s => evR A r s t) hE
      obtain ⟨a1, a2⟩ := hTm.l ht hL0
      by_cases h300 : L0.length ≤ 300
      · obtain ⟨b1, b2, b3⟩ := a1 h300
        by_cases hv : vd L0.length v = true
        · obtain ⟨k, hk, rfl⟩ := vd_of (by omega) hv
          have hkm := List.getElem_mem hk
          have hkl := hL0.lt hE hkm
          have hlt : n32 k < n32 L0.length := (n32_lt (by omega) (by omega)).mpr hk
          obtain ⟨N, hN⟩ : ∃ N, N = if u = 0 then L0[k] / 1024 % 1024 else L0[k] % 1024 := ⟨_, rfl⟩
          obtain ⟨W, L, IW, w74, wL, w2⟩ := M_fails1 (fu := fu) (S := sS (sL T 74 0 (n32 N).toInt64) 59 0 0) ((IT.out _).code 0) ht hfu
          have := hL0.uq wL
          subst this
          rcases w2 with ⟨-, w3, w4, w5⟩ | ⟨w3, -⟩
          · obtain ⟨r1, r2⟩ := w4.2 k hk
            refine ⟨0, sL T 74 0 (n32 N).toInt64, n32 N, sS W 59 0 0, ?_, ?_, rfl, fun _ => ?_, A, r, IW.code 0⟩
            · simp only [f_L_prime, eL, f_F_prime_19, f_F_prime_75, f_X_onOf, f_X_offOf, Option.bind_some, is_0, gr_0_0, gr_0_1, gr_0_2, gr_0_3, gr_0_4, gr_0_5, gi_tp, pi_tp, gi_tf, pi_tf, gi_xf, pi_xf, is_1, gr_1_0, gr_1_1, gi_en, pi_en, is_4, gr_4_0, gr_4_1, gr_4_2, gr_4_3, gi_gn, pi_gn, is_9, gr_9_0, gr_9_1, gi_ts, pi_ts, gi_tw, pi_tw, gi_tc, pi_tc, is_40, gr_40_0, is_42, gr_42_0, gr_42_1, gi_dn, pi_dn, is_45, gr_45_0, gr_45_1, gi_xw, pi_xw, gi_xn, pi_xn, gi_xt, pi_xt, is_59, gi_mco, pi_mco, gi_mev, pi_mev, gr_59_2, gr_59_3, gi_mgt, pi_mgt, gr_59_5, gr_59_6, gr_59_7, gr_59_8, gi_mtp, pi_mtp, gr_59_10, gr_59_11, gr_59_12, gr_59_13, gr_59_14, gr_59_15, gi_mmy, pi_mmy, gr_59_17, gr_59_18, F_needTop (t := some t) (fun k h => by obtain rfl := Option.some.inj h; omega) hT, hx_inr, eT, b2, if_true, if_neg (n32_nn (show k < 2147483648 by omega)), b1, if_pos hlt, rd_ky (show k < 300 by omega), b3 k hk, on_k hkl, off_k hkl]
              rcases hu01 with h | h
              · rw [if_pos h] at hN
                rw [if_pos h, hN]
                simp only [hl_inr, wr_out0, Option.bind_some]
              · have h' : ¬ u = 0 := by rw [h]; decide
                rw [if_neg h'] at hN
                rw [if_neg h', hN]
                simp only [hl_inr, wr_out0, Option.bind_some]
            · simp only [eM, f_M_prime_15, f_M_prime_53, f_M_prime_86, Option.bind_some, is_0, gr_0_0, gr_0_1, gr_0_2, gr_0_3, gr_0_4, gr_0_5, gi_tp, pi_tp, gi_tf, pi_tf, gi_xf, pi_xf, is_1, gr_1_0, gr_1_1, gi_en, pi_en, is_4, gr_4_0, gr_4_1, gr_4_2, gr_4_3, gi_gn, pi_gn, is_9, gr_9_0, gr_9_1, gi_ts, pi_ts, gi_tw, pi_tw, gi_tc, pi_tc, is_40, gr_40_0, is_42, gr_42_0, gr_42_1, gi_dn, pi_dn, is_45, gr_45_0, gr_45_1, gi_xw, pi_xw, gi_xn, pi_xn, gi_xt, pi_xt, is_59, gi_mco, pi_mco, gi_mev, pi_mev, gr_59_2, gr_59_3, gi_mgt, pi_mgt, gr_59_5, gr_59_6, gr_59_7, gr_59_8, gi_mtp, pi_mtp, gr_59_10, gr_59_11, gr_59_12, gr_59_13, gr_59_14, gr_59_15, gi_mmy, pi_mmy, gr_59_17, gr_59_18, sS1, if_true, upd_at, if_neg (show ¬ (0 : Int32) < 0 by decide), w5, if_neg (n32_nn (show k < 2147483648 by omega)), w4.1, if_pos hlt, if_pos (show (0 : Int32) ≤ 0 by decide), rd_mos (show k < 301 by omega), rd_mof (show k < 301 by omega)]
              rcases hu01 with h | h
              · rw [if_pos h] at hN
                rw [if_pos h, hN]
                show some ((sS W 59 0 0).2.1 72 k, _) = _
                rw [sS2, r1]
              · have h' : ¬ u = 0 := by rw [h]; decide
                rw [if_neg h'] at hN
                rw [if_neg h', hN]
                show some ((sS W 59 0 0).2.1 73 k, _) = _
                rw [sS2, r2]
            · show W.2.2 74 0 = _
              rw [w74]; rfl
          · omega
        · obtain ⟨W, L, IW, w74, wL, w2⟩ := M_fails1 (fu := fu) (S := sS T 59 0 0) (IT.code 0) ht hfu
          have := hL0.uq wL
          subst this
          rcases w2 with ⟨-, w3, w4, w5⟩ | ⟨w3, -⟩
          · refine ⟨4, T, 0, sS W 59 0 4, ?_, ?_, rfl, fun h => absurd h (by decide), A, r, IW.code 4⟩
            · simp only [f_L_prime, eL, f_F_prime_19, f_F_prime_42, Option.bind_some, is_0, gr_0_0, gr_0_1, gr_0_2, gr_0_3, gr_0_4, gr_0_5, gi_tp, pi_tp, gi_tf, pi_tf, gi_xf, pi_xf, is_1, gr_1_0, gr_1_1, gi_en, pi_en, is_4, gr_4_0, gr_4_1, gr_4_2, gr_4_3, gi_gn, pi_gn, is_9, gr_9_0, gr_9_1, gi_ts, pi_ts, gi_tw, pi_tw, gi_tc, pi_tc, is_40, gr_40_0, is_42, gr_42_0, gr_42_1, gi_dn, pi_dn, is_45, gr_45_0, gr_45_1, gi_xw, pi_xw, gi_xn, pi_xn, gi_xt, pi_xt, is_59, gi_mco, pi_mco, gi_mev, pi_mev, gr_59_2, gr_59_3, gi_mgt, pi_mgt, gr_59_5, gr_59_6, gr_59_7, gr_59_8, gi_mtp, pi_mtp, gr_59_10, gr_59_11, gr_59_12, gr_59_13, gr_59_14, gr_59_15, gi_mmy, pi_mmy, gr_59_17, gr_59_18, F_needTop (t := some t) (fun k h => by obtain rfl := Option.some.inj h; omega) hT, hx_inr, eT, b2, if_true, b1]
              by_cases hneg : v < 0
              · rw [if_pos hneg]; rfl
              · rw [if_neg hneg, if_neg (fun q => hv (decide_eq_true ⟨hneg, q⟩))]; rfl
            · simp only [eM, f_M_prime_15, f_M_prime_48, f_M_prime_53, f_M_prime_86, Option.bind_some, is_0, gr_0_0, gr_0_1, gr_0_2, gr_0_3, gr_0_4, gr_0_5, gi_tp, pi_tp, gi_tf, pi_tf, gi_xf, pi_xf, is_1, gr_1_0, gr_1_1, gi_en, pi_en, is_4, gr_4_0, gr_4_1, gr_4_2, gr_4_3, gi_gn, pi_gn, is_9, gr_9_0, gr_9_1, gi_ts, pi_ts, gi_tw, pi_tw, gi_tc, pi_tc, is_40, gr_40_0, is_42, gr_42_0, gr_42_1, gi_dn, pi_dn, is_45, gr_45_0, gr_45_1, gi_xw, pi_xw, gi_xn, pi_xn, gi_xt, pi_xt, is_59, gi_mco, pi_mco, gi_mev, pi_mev, gr_59_2, gr_59_3, gi_mgt, pi_mgt, gr_59_5, gr_59_6, gr_59_7, gr_59_8, gi_mtp, pi_mtp, gr_59_10, gr_59_11, gr_59_12, gr_59_13, gr_59_14, gr_59_15, gi_mmy, pi_mmy, gr_59_17, gr_59_18, sS1, if_true, upd_at, if_neg (show ¬ (0 : Int32) < 0 by decide), w5, w4.1, if_neg (show ¬ (4 : Int32) ≤ 0 by decide)]
              by_cases hneg : v < 0
              · rw [if_pos hneg]
              · rw [if_neg hneg, if_neg (fun q => hv (decide_eq_true ⟨hneg, q⟩))]
          · omega
      · have b4 := a2 (by omega)
        obtain ⟨W, L, IW, w74, wL, w2⟩ := M_fails1 (fu := fu) (S := sS T 59 0 0) (IT.code 0) ht hfu
        have := hL0.uq wL
        subst this
        rcases w2 with ⟨w3, -⟩ | ⟨-, w3, w5⟩
        · omega
        · refine ⟨3, T, 0, W, ?_, ?_, w3, fun h => absurd h (by decide), A, r, IW⟩
          · simp only [f_L_prime, eL, f_F_prime_19, Option.bind_some, is_0, gr_0_0, gr_0_1, gr_0_2, gr_0_3, gr_0_4, gr_0_5, gi_tp, pi_tp, gi_tf, pi_tf, gi_xf, pi_xf, is_1, gr_1_0, gr_1_1, gi_en, pi_en, is_4, gr_4_0, gr_4_1, gr_4_2, gr_4_3, gi_gn, pi_gn, is_9, gr_9_0, gr_9_1, gi_ts, pi_ts, gi_tw, pi_tw, gi_tc, pi_tc, is_40, gr_40_0, is_42, gr_42_0, gr_42_1, gi_dn, pi_dn, is_45, gr_45_0, gr_45_1, gi_xw, pi_xw, gi_xn, pi_xn, gi_xt, pi_xt, is_59, gi_mco, pi_mco, gi_mev, pi_mev, gr_59_2, gr_59_3, gi_mgt, pi_mgt, gr_59_5, gr_59_6, gr_59_7, gr_59_8, gi_mtp, pi_mtp, gr_59_10, gr_59_11, gr_59_12, gr_59_13, gr_59_14, gr_59_15, gi_mmy, pi_mmy, gr_59_17, gr_59_18, F_needTop (t := some t) (fun k h => by obtain rfl := Option.some.inj h; omega) hT, hx_inr, eT, b4, if_neg (show ¬ (1 : Int32) = 0 by decide), hx_inl, hl_inl]; rfl
          · simp only [eM, f_M_prime_15, f_M_prime_33, Option.bind_some, is_0, gr_0_0, gr_0_1, gr_0_2, gr_0_3, gr_0_4, gr_0_5, gi_tp, pi_tp, gi_tf, pi_tf, gi_xf, pi_xf, is_1, gr_1_0, gr_1_1, gi_en, pi_en, is_4, gr_4_0, gr_4_1, gr_4_2, gr_4_3, gi_gn, pi_gn, is_9, gr_9_0, gr_9_1, gi_ts, pi_ts, gi_tw, pi_tw, gi_tc, pi_tc, is_40, gr_40_0, is_42, gr_42_0, gr_42_1, gi_dn, pi_dn, is_45, gr_45_0, gr_45_1, gi_xw, pi_xw, gi_xn, pi_xn, gi_xt, pi_xt, is_59, gi_mco, pi_mco, gi_mev, pi_mev, gr_59_2, gr_59_3, gi_mgt, pi_mgt, gr_59_5, gr_59_6, gr_59_7, gr_59_8, gi_mtp, pi_mtp, gr_59_10, gr_59_11, gr_59_12, gr_59_13, gr_59_14, gr_59_15, gi_mmy, pi_mmy, gr_59_17, gr_59_18, sS1, if_true, upd_at, if_neg (show ¬ (0 : Int32) < 0 by decide), w5, if_neg (show ¬ (1 : Int32) = 0 by decide)]
end
