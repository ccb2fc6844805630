/-! event, chance, hold, gate, top -/
theorem vd_if2 {α : Type} {k : Nat} {v : Int32} {x y : α} (hk : k < 2147483647) : (if v < 0 then x else if v ≤ OfNat.ofNat k then y else x) = (if vd (k + 1) v = true then y else x) := by
  rw [← vd_if]
  by_cases h0 : v < 0
  · rw [if_pos h0, if_pos h0]
  · rw [if_neg h0, if_neg h0]
    obtain ⟨n, hn, rfl⟩ := n32_of h0
    by_cases h : n ≤ k
    · rw [if_pos ((nl_le hn (show k < 2147483648 from by omega)).mpr h), if_neg (by rw [n32_le (by omega) hn]; omega)]
    · rw [if_neg (fun hh => h ((nl_le hn (show k < 2147483648 from by omega)).mp hh)), if_pos (by rw [n32_le (by omega) hn]; omega)]
theorem Inv.cg {S T : Ws} {A : Ab} {r : Nat → Nat} (I : Inv S A r) (h0 : T.1 0 = S.1 0) (h1 : T.1 1 = S.1 1) (h4 : T.1 4 = S.1 4) (h9 : T.1 9 = S.1 9) (h45 : T.1 45 = S.1 45) (m1 : T.1 59 1 = S.1 59 1) (m4 : T.1 59 4 = S.1 59 4) (m9 : T.1 59 9 = S.1 59 9) (hI : ∀ q, q ∈ [2, 3, 5, 6, 7, 8, 46, 60, 61, 62, 63, 64, 65] → T.2.1 q = S.2.1 q) (hL : ∀ q, 11 ≤ q → q < 39 → T.2.2 q = S.2.2 q) : Inv T A r := by
  obtain ⟨O, D, M, T1, T2⟩ := I
  refine ⟨O, ?_, ?_, ?_, ?_⟩
  · unfold RD at D ⊢
    rw [h0, h1, h4, hI 2 (by simp), hI 3 (by simp), hI 5 (by simp), hI 6 (by simp), hI 7 (by simp), hI 8 (by simp)]; exact D
  · unfold RM at M ⊢
    rw [m1, m4, m9, hI 60 (by simp), hI 61 (by simp), hI 62 (by simp), hI 63 (by simp), hI 64 (by simp), hI 65 (by simp)]; exact M
  · intro h
    rw [h0] at h
    obtain ⟨t, a1, a2, a3, a4, a5⟩ := T1 h
    have ht : t < 12 := by have := O.2.2.2.2.2.2.2 t a1; have := O.2.1; omega
    refine ⟨t, a1, by rw [h9]; exact a2, by rw [h9]; exact a3, by rw [h9]; exact a4, fun s hs => ?_⟩
    rw [hL (11 + (16 + t)) (by omega) (by omega)]; exact a5 s hs
  · intro h
    rw [h0] at h
    obtain ⟨t, a1, L, a2, a3, a4⟩ := T2 h
    refine ⟨t, a1, L, a2, ?_, ?_⟩
    · rw [h45, hI 46 (by simp)]; exact a3
    · rw [h45]; exact a4
theorem Inv.code {S : Ws} {A : Ab} {r : Nat → Nat} (I : Inv S A r) (x : Int32) : Inv (sS S 59 0 x) A r :=
  I.cg rfl rfl rfl rfl rfl rfl rfl rfl (fun _ _ => rfl) (fun _ _ _ => rfl)
theorem m_le0 : ¬ (1 : Int32) ≤ 0 ∧ ¬ (2 : Int32) ≤ 0 ∧ ¬ (3 : Int32) ≤ 0 ∧ ¬ (4 : Int32) ≤ 0 := by decide
theorem Cas.no {fL fM : List va_E → Option (Int32 × List va_E)} {S : Ws} {A : Ab} {r : Nat → Nat} (I : Inv S A r) {k : Int32} (hk : k ≠ 0) (h1 : fL (enc S) = some (k, enc S)) (h2 : fM (enc S) = some (0, enc (sS S 59 0 k))) : Cas fL fM S :=
  ⟨k, S, 0, sS S 59 0 k, h1, h2, rfl, fun h => absurd h hk, A, r, I.code k⟩
section
variable {fu : Nat} {S : Ws} {A : Ab} {r : Nat → Nat}
theorem c_event (I : Inv S A r) (v : Int32) : Cas (f_L_event fu 0 v 74) (f_M_event fu 59 v) S := by
  obtain ⟨O, D, M, T, X⟩ := id I
  have hE := D.1; have hM := M.1
  have hn := O.1
  cases hv : vd 17 v with
  | false =>
    refine Cas.no I (k := 1) (by decide) ?_ ?_
    · simp only [f_L_event, f_F_event, Option.bind_some, is_0, gr_0_0, gr_0_1, gr_0_2, gr_0_3, gr_0_4, gr_0_5, gi_tp, pi_tp, gi_tf, pi_tf, gi_xf, pi_xf, is_1, gr_1_0, gr_1_1, gi_en, pi_en, is_4, gr_4_0, gr_4_1, gr_4_2, gr_4_3, gi_gn, pi_gn, is_9, gr_9_0, gr_9_1, gi_ts, pi_ts, gi_tw, pi_tw, gi_tc, pi_tc, is_40, gr_40_0, is_42, gr_42_0, gr_42_1, gi_dn, pi_dn, is_45, gr_45_0, gr_45_1, gi_xw, pi_xw, gi_xn, pi_xn, gi_xt, pi_xt, is_59, gi_mco, pi_mco, gi_mev, pi_mev, gr_59_2, gr_59_3, gi_mgt, pi_mgt, gr_59_5, gr_59_6, gr_59_7, gr_59_8, gi_mtp, pi_mtp, gr_59_10, gr_59_11, gr_59_12, gr_59_13, gr_59_14, gr_59_15, gi_mmy, pi_mmy, gr_59_17, gr_59_18, F_needChance, hv, hx_inl, hl_inl, Bool.false_eq_true, if_false, if_true]
    · simp only [f_M_event, f_M_event_11]
      rw [vd_if2 (k := 16) (by omega), hv]
      simp only [f_M_event_29, Option.bind_some, is_0, gr_0_0, gr_0_1, gr_0_2, gr_0_3, gr_0_4, gr_0_5, gi_tp, pi_tp, gi_tf, pi_tf, gi_xf, pi_xf, is_1, gr_1_0, gr_1_1, gi_en, pi_en, is_4, gr_4_0, gr_4_1, gr_4_2, gr_4_3, gi_gn, pi_gn, is_9, gr_9_0, gr_9_1, gi_ts, pi_ts, gi_tw, pi_tw, gi_tc, pi_tc, is_40, gr_40_0, is_42, gr_42_0, gr_42_1, gi_dn, pi_dn, is_45, gr_45_0, gr_45_1, gi_xw, pi_xw, gi_xn, pi_xn, gi_xt, pi_xt, is_59, gi_mco, pi_mco, gi_mev, pi_mev, gr_59_2, gr_59_3, gi_mgt, pi_mgt, gr_59_5, gr_59_6, gr_59_7, gr_59_8, gi_mtp, pi_mtp, gr_59_10, gr_59_11, gr_59_12, gr_59_13, gr_59_14, gr_59_15, gi_mmy, pi_mmy, gr_59_17, gr_59_18, sS1, upd_at, Bool.false_eq_true, if_false, if_true, m_le0]
  | true =>
    obtain ⟨c, hc, rfl⟩ := vd_of (by omega) hv
    by_cases h10 : aE A = 10
    · refine Cas.no I (k := 2) (by decide) ?_ ?_
      · simp only [f_L_event, f_F_event, Option.bind_some, is_0, gr_0_0, gr_0_1, gr_0_2, gr_0_3, gr_0_4, gr_0_5, gi_tp, pi_tp, gi_tf, pi_tf, gi_xf, pi_xf, is_1, gr_1_0, gr_1_1, gi_en, pi_en, is_4, gr_4_0, gr_4_1, gr_4_2, gr_4_3, gi_gn, pi_gn, is_9, gr_9_0, gr_9_1, gi_ts, pi_ts, gi_tw, pi_tw, gi_tc, pi_tc, is_40, gr_40_0, is_42, gr_42_0, gr_42_1, gi_dn, pi_dn, is_45, gr_45_0, gr_45_1, gi_xw, pi_xw, gi_xn, pi_xn, gi_xt, pi_xt, is_59, gi_mco, pi_mco, gi_mev, pi_mev, gr_59_2, gr_59_3, gi_mgt, pi_mgt, gr_59_5, gr_59_6, gr_59_7, gr_59_8, gi_mtp, pi_mtp, gr_59_10, gr_59_11, gr_59_12, gr_59_13, gr_59_14, gr_59_15, gi_mmy, pi_mmy, gr_59_17, gr_59_18, F_needChance, hv, hx_inr, hl_inl, if_true, hE, h10]
        rfl
      · simp only [f_M_event, f_M_event_11]
        rw [vd_if2 (k := 16) (by omega), hv]
        simp only [f_M_event_29, Option.bind_some, is_0, gr_0_0, gr_0_1, gr_0_2, gr_0_3, gr_0_4, gr_0_5, gi_tp, pi_tp, gi_tf, pi_tf, gi_xf, pi_xf, is_1, gr_1_0, gr_1_1, gi_en, pi_en, is_4, gr_4_0, gr_4_1, gr_4_2, gr_4_3, gi_gn, pi_gn, is_9, gr_9_0, gr_9_1, gi_ts, pi_ts, gi_tw, pi_tw, gi_tc, pi_tc, is_40, gr_40_0, is_42, gr_42_0, gr_42_1, gi_dn, pi_dn, is_45, gr_45_0, gr_45_1, gi_xw, pi_xw, gi_xn, pi_xn, gi_xt, pi_xt, is_59, gi_mco, pi_mco, gi_mev, pi_mev, gr_59_2, gr_59_3, gi_mgt, pi_mgt, gr_59_5, gr_59_6, gr_59_7, gr_59_8, gi_mtp, pi_mtp, gr_59_10, gr_59_11, gr_59_12, gr_59_13, gr_59_14, gr_59_15, gi_mmy, pi_mmy, gr_59_17, gr_59_18, sS1, upd_at, if_true, hM, h10, show n32 10 = (10 : Int32) from rfl, m_le0, if_false]
    · have hlt : aE A < 10 := by omega
      refine ⟨0, sL (sS (sI (sI (sS (sS S 0 7 0) 0 8 0) 2 (aE A) (n32 c)) 3 (aE A) 0) 1 2 (n32 (aE A + 1))) 74 0 (n32 (aE A)).toInt64, n32 (aE A), sS (sI (sI (sS (sL (sS (sI (sI (sS (sS S 0 7 0) 0 8 0) 2 (aE A) (n32 c)) 3 (aE A) 0) 1 2 (n32 (aE A + 1))) 74 0 (n32 (aE A)).toInt64) 59 0 0) 60 (aE A) (n32 c)) 61 (aE A) 0) 59 1 (n32 (aE A + 1)), ?_, ?_, rfl, fun _ => rfl, (aE A + 1, aG A, fun i => if i = aE A then c else aC A i, fun i => if i = aE A then 0 else aH A i, aK A, aV A, aX A, aT A), r, ?_⟩
      · have h9 : n32 (aE A) < (10 : Int32) := (nl_lt (by omega) (by omega)).mpr hlt
        simp only [f_L_event, f_F_event, Option.bind_some, is_0, gr_0_0, gr_0_1, gr_0_2, gr_0_3, gr_0_4, gr_0_5, gi_tp, pi_tp, gi_tf, pi_tf, gi_xf, pi_xf, is_1, gr_1_0, gr_1_1, gi_en, pi_en, is_4, gr_4_0, gr_4_1, gr_4_2, gr_4_3, gi_gn, pi_gn, is_9, gr_9_0, gr_9_1, gi_ts, pi_ts, gi_tw, pi_tw, gi_tc, pi_tc, is_40, gr_40_0, is_42, gr_42_0, gr_42_1, gi_dn, pi_dn, is_45, gr_45_0, gr_45_1, gi_xw, pi_xw, gi_xn, pi_xn, gi_xt, pi_xt, is_59, gi_mco, pi_mco, gi_mev, pi_mev, gr_59_2, gr_59_3, gi_mgt, pi_mgt, gr_59_5, gr_59_6, gr_59_7, gr_59_8, gi_mtp, pi_mtp, gr_59_10, gr_59_11, gr_59_12, gr_59_13, gr_59_14, gr_59_15, gi_mmy, pi_mmy, gr_59_17, gr_59_18, F_needChance, hv, hx_inr, hl_inr, if_true, hE, h9, F_forget, f_E_add, sS1, sS2, upd_at, sI1, rd_ech hlt, wr_ech hlt, wr_ehd hlt, wr_out0, show ¬ (1 = 0) from by decide, if_false, nl_add, nl_sub (show 1 ≤ aE A + 1 from by omega), Nat.add_sub_cancel]
      · have h9 : ¬ n32 (aE A) = (10 : Int32) := fun h => h10 ((nl_eq (by omega) (by omega)).mp h)
        simp only [f_M_event, f_M_event_11]
        rw [vd_if2 (k := 16) (by omega), hv]
        have hM' : (sL (sS (sI (sI (sS (sS S 0 7 0) 0 8 0) 2 (aE A) (n32 c)) 3 (aE A) 0) 1 2 (n32 (aE A + 1))) 74 0 (n32 (aE A)).toInt64).1 59 1 = n32 (aE A) := hM
        simp only [f_M_event_29, Option.bind_some, is_0, gr_0_0, gr_0_1, gr_0_2, gr_0_3, gr_0_4, gr_0_5, gi_tp, pi_tp, gi_tf, pi_tf, gi_xf, pi_xf, is_1, gr_1_0, gr_1_1, gi_en, pi_en, is_4, gr_4_0, gr_4_1, gr_4_2, gr_4_3, gi_gn, pi_gn, is_9, gr_9_0, gr_9_1, gi_ts, pi_ts, gi_tw, pi_tw, gi_tc, pi_tc, is_40, gr_40_0, is_42, gr_42_0, gr_42_1, gi_dn, pi_dn, is_45, gr_45_0, gr_45_1, gi_xw, pi_xw, gi_xn, pi_xn, gi_xt, pi_xt, is_59, gi_mco, pi_mco, gi_mev, pi_mev, gr_59_2, gr_59_3, gi_mgt, pi_mgt, gr_59_5, gr_59_6, gr_59_7, gr_59_8, gi_mtp, pi_mtp, gr_59_10, gr_59_11, gr_59_12, gr_59_13, gr_59_14, gr_59_15, gi_mmy, pi_mmy, gr_59_17, gr_59_18, sS1, sS2, sI1, upd_at, if_true, hM', h9, if_false, show (0 : Int32) ≤ 0 from by decide, wr_mch hlt, wr_mhd hlt, nl_add, nl_sub (show 1 ≤ aE A + 1 from by omega), Nat.add_sub_cancel, show ¬ (1 = 0) from by decide]
      · refine ⟨?_, ?_, ?_, fun h => absurd (show (0 : Int32) = 1 from h) (by decide), fun h => absurd (show (0 : Int32) = 1 from h) (by decide)⟩
        · obtain ⟨o1, o2, o3, o4, o5, o6, o7, o8⟩ := O
          refine ⟨hlt, o2, fun i hi => ?_, o4, o5, fun g c hc => ⟨(o6 g c hc).1, (o6 g c hc).2.imp_left (fun h => Nat.lt_succ_of_lt h)⟩, o7, o8⟩
          show (if i = aE A then c else aC A i) ≤ 16 ∧ (if i = aE A then 0 else aH A i) ≤ 2
          have hi : i < aE A + 1 := hi
          by_cases h : i = aE A
          · rw [if_pos h, if_pos h]; omega
          · rw [if_neg h, if_neg h]; exact o3 i (by omega)
        · obtain ⟨d1, d2, d3, d4, d5, d6, d7, d8⟩ := D
          refine ⟨rfl, fun i hi => ?_, d3, d4, d5, d6, Or.inl rfl, Or.inl rfl⟩
          show (if i = aE A then n32 c else S.2.1 2 i) = n32 (if i = aE A then c else aC A i) ∧ (if i = aE A then (0 : Int32) else S.2.1 3 i) = n32 (if i = aE A then 0 else aH A i)
          have hi : i < aE A + 1 := hi
          by_cases h : i = aE A
          · simp only [if_pos h]; exact ⟨trivial, rfl⟩
          · simp only [if_neg h]; exact d2 i (by omega)
        · obtain ⟨d1, d2, d3, d4, d5, d6⟩ := M
          refine ⟨rfl, fun i hi => ?_, d3, d4, d5, d6⟩
          show (if i = aE A then n32 c else S.2.1 60 i) = n32 (if i = aE A then c else aC A i) ∧ (if i = aE A then (0 : Int32) else S.2.1 61 i) = n32 (if i = aE A then 0 else aH A i)
          have hi : i < aE A + 1 := hi
          by_cases h : i = aE A
          · simp only [if_pos h]; exact ⟨trivial, rfl⟩
          · simp only [if_neg h]; exact d2 i (by omega)
theorem c_chance (I : Inv S A r) (v u : Int32) : Cas (f_L_chance fu 0 v u 74) (f_M_chance fu 59 v u) S := by
  obtain ⟨O, D, M, T, X⟩ := id I
  have hE := D.1; have hM := M.1
  have hn := O.1
  cases hv : vd (aE A) v with
  | false =>
    refine Cas.no I (k := 1) (by decide) ?_ ?_
    · simp only [f_L_chance, f_F_chance, Option.bind_some, is_0, gr_0_0, gr_0_1, gr_0_2, gr_0_3, gr_0_4, gr_0_5, gi_tp, pi_tp, gi_tf, pi_tf, gi_xf, pi_xf, is_1, gr_1_0, gr_1_1, gi_en, pi_en, is_4, gr_4_0, gr_4_1, gr_4_2, gr_4_3, gi_gn, pi_gn, is_9, gr_9_0, gr_9_1, gi_ts, pi_ts, gi_tw, pi_tw, gi_tc, pi_tc, is_40, gr_40_0, is_42, gr_42_0, gr_42_1, gi_dn, pi_dn, is_45, gr_45_0, gr_45_1, gi_xw, pi_xw, gi_xn, pi_xn, gi_xt, pi_xt, is_59, gi_mco, pi_mco, gi_mev, pi_mev, gr_59_2, gr_59_3, gi_mgt, pi_mgt, gr_59_5, gr_59_6, gr_59_7, gr_59_8, gi_mtp, pi_mtp, gr_59_10, gr_59_11, gr_59_12, gr_59_13, gr_59_14, gr_59_15, gi_mmy, pi_mmy, gr_59_17, gr_59_18, F_needEvent hE, hv, hx_inl, hl_inl, Bool.false_eq_true, if_false, if_true]
    · simp only [f_M_chance, f_M_chance_19, f_M_chance_24, Option.bind_some, is_0, gr_0_0, gr_0_1, gr_0_2, gr_0_3, gr_0_4, gr_0_5, gi_tp, pi_tp, gi_tf, pi_tf, gi_xf, pi_xf, is_1, gr_1_0, gr_1_1, gi_en, pi_en, is_4, gr_4_0, gr_4_1, gr_4_2, gr_4_3, gi_gn, pi_gn, is_9, gr_9_0, gr_9_1, gi_ts, pi_ts, gi_tw, pi_tw, gi_tc, pi_tc, is_40, gr_40_0, is_42, gr_42_0, gr_42_1, gi_dn, pi_dn, is_45, gr_45_0, gr_45_1, gi_xw, pi_xw, gi_xn, pi_xn, gi_xt, pi_xt, is_59, gi_mco, pi_mco, gi_mev, pi_mev, gr_59_2, gr_59_3, gi_mgt, pi_mgt, gr_59_5, gr_59_6, gr_59_7, gr_59_8, gi_mtp, pi_mtp, gr_59_10, gr_59_11, gr_59_12, gr_59_13, gr_59_14, gr_59_15, gi_mmy, pi_mmy, gr_59_17, gr_59_18, M_isEvent hM, hv, b32_0, if_true, sS1, upd_at, m_le0, if_false]
  | true =>
    obtain ⟨e, he, rfl⟩ := vd_of (by omega) hv
    cases hu : vd 17 u with
    | false =>
      refine Cas.no I (k := 1) (by decide) ?_ ?_
      · simp only [f_L_chance, f_F_chance, Option.bind_some, is_0, gr_0_0, gr_0_1, gr_0_2, gr_0_3, gr_0_4, gr_0_5, gi_tp, pi_tp, gi_tf, pi_tf, gi_xf, pi_xf, is_1, gr_1_0, gr_1_1, gi_en, pi_en, is_4, gr_4_0, gr_4_1, gr_4_2, gr_4_3, gi_gn, pi_gn, is_9, gr_9_0, gr_9_1, gi_ts, pi_ts, gi_tw, pi_tw, gi_tc, pi_tc, is_40, gr_40_0, is_42, gr_42_0, gr_42_1, gi_dn, pi_dn, is_45, gr_45_0, gr_45_1, gi_xw, pi_xw, gi_xn, pi_xn, gi_xt, pi_xt, is_59, gi_mco, pi_mco, gi_mev, pi_mev, gr_59_2, gr_59_3, gi_mgt, pi_mgt, gr_59_5, gr_59_6, gr_59_7, gr_59_8, gi_mtp, pi_mtp, gr_59_10, gr_59_11, gr_59_12, gr_59_13, gr_59_14, gr_59_15, gi_mmy, pi_mmy, gr_59_17, gr_59_18, F_needEvent hE, F_needChance, hv, hu, hx_inr, hx_inl, hl_inl, Bool.false_eq_true, if_false, if_true]
      · simp only [f_M_chance, f_M_chance_19, Option.bind_some, is_0, gr_0_0, gr_0_1, gr_0_2, gr_0_3, gr_0_4, gr_0_5, gi_tp, pi_tp, gi_tf, pi_tf, gi_xf, pi_xf, is_1, gr_1_0, gr_1_1, gi_en, pi_en, is_4, gr_4_0, gr_4_1, gr_4_2, gr_4_3, gi_gn, pi_gn, is_9, gr_9_0, gr_9_1, gi_ts, pi_ts, gi_tw, pi_tw, gi_tc, pi_tc, is_40, gr_40_0, is_42, gr_42_0, gr_42_1, gi_dn, pi_dn, is_45, gr_45_0, gr_45_1, gi_xw, pi_xw, gi_xn, pi_xn, gi_xt, pi_xt, is_59, gi_mco, pi_mco, gi_mev, pi_mev, gr_59_2, gr_59_3, gi_mgt, pi_mgt, gr_59_5, gr_59_6, gr_59_7, gr_59_8, gi_mtp, pi_mtp, gr_59_10, gr_59_11, gr_59_12, gr_59_13, gr_59_14, gr_59_15, gi_mmy, pi_mmy, gr_59_17, gr_59_18, M_isEvent hM, hv, b32_0, Bool.true_eq_false, if_false]
        rw [vd_if2 (k := 16) (by omega), hu]
        simp only [f_M_chance_24, Option.bind_some, is_0, gr_0_0, gr_0_1, gr_0_2, gr_0_3, gr_0_4, gr_0_5, gi_tp, pi_tp, gi_tf, pi_tf, gi_xf, pi_xf, is_1, gr_1_0, gr_1_1, gi_en, pi_en, is_4, gr_4_0, gr_4_1, gr_4_2, gr_4_3, gi_gn, pi_gn, is_9, gr_9_0, gr_9_1, gi_ts, pi_ts, gi_tw, pi_tw, gi_tc, pi_tc, is_40, gr_40_0, is_42, gr_42_0, gr_42_1, gi_dn, pi_dn, is_45, gr_45_0, gr_45_1, gi_xw, pi_xw, gi_xn, pi_xn, gi_xt, pi_xt, is_59, gi_mco, pi_mco, gi_mev, pi_mev, gr_59_2, gr_59_3, gi_mgt, pi_mgt, gr_59_5, gr_59_6, gr_59_7, gr_59_8, gi_mtp, pi_mtp, gr_59_10, gr_59_11, gr_59_12, gr_59_13, gr_59_14, gr_59_15, gi_mmy, pi_mmy, gr_59_17, gr_59_18, sS1, upd_at, Bool.false_eq_true, if_false, if_true, m_le0]
    | true =>
      obtain ⟨c, hc, rfl⟩ := vd_of (by omega) hu
      have he10 : e < 10 := by omega
      refine ⟨0, sL (sI S 2 e (n32 c)) 74 0 (S.2.1 2 e).toInt64, S.2.1 60 e, sI (sS (sL (sI S 2 e (n32 c)) 74 0 (S.2.1 2 e).toInt64) 59 0 0) 60 e (n32 c), ?_, ?_, rfl, fun _ => ?_, (aE A, aG A, fun i => if i = e then c else aC A i, aH A, aK A, aV A, aX A, aT A), r, ?_⟩
      · simp only [f_L_chance, f_F_chance, Option.bind_some, is_0, gr_0_0, gr_0_1, gr_0_2, gr_0_3, gr_0_4, gr_0_5, gi_tp, pi_tp, gi_tf, pi_tf, gi_xf, pi_xf, is_1, gr_1_0, gr_1_1, gi_en, pi_en, is_4, gr_4_0, gr_4_1, gr_4_2, gr_4_3, gi_gn, pi_gn, is_9, gr_9_0, gr_9_1, gi_ts, pi_ts, gi_tw, pi_tw, gi_tc, pi_tc, is_40, gr_40_0, is_42, gr_42_0, gr_42_1, gi_dn, pi_dn, is_45, gr_45_0, gr_45_1, gi_xw, pi_xw, gi_xn, pi_xn, gi_xt, pi_xt, is_59, gi_mco, pi_mco, gi_mev, pi_mev, gr_59_2, gr_59_3, gi_mgt, pi_mgt, gr_59_5, gr_59_6, gr_59_7, gr_59_8, gi_mtp, pi_mtp, gr_59_10, gr_59_11, gr_59_12, gr_59_13, gr_59_14, gr_59_15, gi_mmy, pi_mmy, gr_59_17, gr_59_18, F_needEvent hE, F_needChance, hv, hu, hx_inr, hl_inr, if_true, rd_ech he10, wr_ech he10, wr_out0]
      · have hM' : (sL (sI S 2 e (n32 c)) 74 0 (S.2.1 2 e).toInt64).1 59 1 = n32 (aE A) := hM
        simp only [f_M_chance, f_M_chance_19, Option.bind_some, is_0, gr_0_0, gr_0_1, gr_0_2, gr_0_3, gr_0_4, gr_0_5, gi_tp, pi_tp, gi_tf, pi_tf, gi_xf, pi_xf, is_1, gr_1_0, gr_1_1, gi_en, pi_en, is_4, gr_4_0, gr_4_1, gr_4_2, gr_4_3, gi_gn, pi_gn, is_9, gr_9_0, gr_9_1, gi_ts, pi_ts, gi_tw, pi_tw, gi_tc, pi_tc, is_40, gr_40_0, is_42, gr_42_0, gr_42_1, gi_dn, pi_dn, is_45, gr_45_0, gr_45_1, gi_xw, pi_xw, gi_xn, pi_xn, gi_xt, pi_xt, is_59, gi_mco, pi_mco, gi_mev, pi_mev, gr_59_2, gr_59_3, gi_mgt, pi_mgt, gr_59_5, gr_59_6, gr_59_7, gr_59_8, gi_mtp, pi_mtp, gr_59_10, gr_59_11, gr_59_12, gr_59_13, gr_59_14, gr_59_15, gi_mmy, pi_mmy, gr_59_17, gr_59_18, M_isEvent hM', hv, b32_0, Bool.true_eq_false, if_false]
        rw [vd_if2 (k := 16) (by omega), hu]
        simp only [f_M_chance_24, Option.bind_some, is_0, gr_0_0, gr_0_1, gr_0_2, gr_0_3, gr_0_4, gr_0_5, gi_tp, pi_tp, gi_tf, pi_tf, gi_xf, pi_xf, is_1, gr_1_0, gr_1_1, gi_en, pi_en, is_4, gr_4_0, gr_4_1, gr_4_2, gr_4_3, gi_gn, pi_gn, is_9, gr_9_0, gr_9_1, gi_ts, pi_ts, gi_tw, pi_tw, gi_tc, pi_tc, is_40, gr_40_0, is_42, gr_42_0, gr_42_1, gi_dn, pi_dn, is_45, gr_45_0, gr_45_1, gi_xw, pi_xw, gi_xn, pi_xn, gi_xt, pi_xt, is_59, gi_mco, pi_mco, gi_mev, pi_mev, gr_59_2, gr_59_3, gi_mgt, pi_mgt, gr_59_5, gr_59_6, gr_59_7, gr_59_8, gi_mtp, pi_mtp, gr_59_10, gr_59_11, gr_59_12, gr_59_13, gr_59_14, gr_59_15, gi_mmy, pi_mmy, gr_59_17, gr_59_18, sS1, sS2, sL2, sI2, upd_at, if_true, if_false, rd_mch he10, wr_mch he10, show (0 : Int32) ≤ 0 from by decide, show ¬ (60 = 2) from by decide]
      · show (S.2.1 2 e).toInt64 = (S.2.1 60 e).toInt64
        rw [(D.2.1 e he).1, (M.2.1 e he).1]
      · refine ⟨?_, ?_, ?_, ?_, ?_⟩
        · obtain ⟨o1, o2, o3, o4, o5, o6, o7, o8⟩ := O
          refine ⟨o1, o2, fun i hi => ?_, o4, o5, o6, o7, o8⟩
          show (if i = e then c else aC A i) ≤ 16 ∧ aH A i ≤ 2
          refine ⟨?_, (o3 i hi).2⟩
          split
          · omega
          · exact (o3 i hi).1
        · obtain ⟨d1, d2, d3, d4, d5, d6, d7, d8⟩ := D
          refine ⟨d1, fun i hi => ⟨?_, (d2 i hi).2⟩, d3, d4, d5, d6, d7, d8⟩
          show (if i = e then n32 c else S.2.1 2 i) = n32 (if i = e then c else aC A i)
          split
          · rfl
          · exact (d2 i hi).1
        · obtain ⟨d1, d2, d3, d4, d5, d6⟩ := M
          refine ⟨d1, fun i hi => ⟨?_, (d2 i hi).2⟩, d3, d4, d5, d6⟩
          show (if i = e then n32 c else S.2.1 60 i) = n32 (if i = e then c else aC A i)
          split
          · rfl
          · exact (d2 i hi).1
        · intro h
          obtain ⟨t, a1, a2, a3, a4, a5⟩ := T h
          have ht := inv_tp I t a1
          refine ⟨t, a1, a2, a3, a4, fun s hs => ?_⟩
          show lb (upL S.2.2 74 0 _ (11 + (16 + t)) (s / 64)) (s % 64) = _
          rw [upL_ne (by omega)]
          exact (a5 s hs).trans (ev_C (A := A) _ _).symm
        · intro h
          obtain ⟨t, a1, L, a2, a3, a4⟩ := X h
          refine ⟨t, a1, L, ?_, a3, a4⟩
          rw [show (fun s => evR (aE A, aG A, (fun i => if i = e then c else aC A i), aH A, aK A, aV A, aX A, aT A) r s t) = (fun s => evR A r s t) from funext (fun s => ev_C (A := A) _ _)]
          exact a2
theorem c_hold (I : Inv S A r) (v u : Int32) : Cas (f_L_hold fu 0 v u 74) (f_M_hold fu 59 v u) S := by
  obtain ⟨O, D, M, T, X⟩ := id I
  have hE := D.1; have hM := M.1
  have hn := O.1
  cases hv : vd (aE A) v with
  | false =>
    refine Cas.no I (k := 1) (by decide) ?_ ?_
    · simp only [f_L_hold, f_F_hold, Option.bind_some, is_0, gr_0_0, gr_0_1, gr_0_2, gr_0_3, gr_0_4, gr_0_5, gi_tp, pi_tp, gi_tf, pi_tf, gi_xf, pi_xf, is_1, gr_1_0, gr_1_1, gi_en, pi_en, is_4, gr_4_0, gr_4_1, gr_4_2, gr_4_3, gi_gn, pi_gn, is_9, gr_9_0, gr_9_1, gi_ts, pi_ts, gi_tw, pi_tw, gi_tc, pi_tc, is_40, gr_40_0, is_42, gr_42_0, gr_42_1, gi_dn, pi_dn, is_45, gr_45_0, gr_45_1, gi_xw, pi_xw, gi_xn, pi_xn, gi_xt, pi_xt, is_59, gi_mco, pi_mco, gi_mev, pi_mev, gr_59_2, gr_59_3, gi_mgt, pi_mgt, gr_59_5, gr_59_6, gr_59_7, gr_59_8, gi_mtp, pi_mtp, gr_59_10, gr_59_11, gr_59_12, gr_59_13, gr_59_14, gr_59_15, gi_mmy, pi_mmy, gr_59_17, gr_59_18, F_needEvent hE, hv, hx_inl, hl_inl, Bool.false_eq_true, if_false, if_true]
    · simp only [f_M_hold, f_M_hold_18, f_M_hold_23, Option.bind_some, is_0, gr_0_0, gr_0_1, gr_0_2, gr_0_3, gr_0_4, gr_0_5, gi_tp, pi_tp, gi_tf, pi_tf, gi_xf, pi_xf, is_1, gr_1_0, gr_1_1, gi_en, pi_en, is_4, gr_4_0, gr_4_1, gr_4_2, gr_4_3, gi_gn, pi_gn, is_9, gr_9_0, gr_9_1, gi_ts, pi_ts, gi_tw, pi_tw, gi_tc, pi_tc, is_40, gr_40_0, is_42, gr_42_0, gr_42_1, gi_dn, pi_dn, is_45, gr_45_0, gr_45_1, gi_xw, pi_xw, gi_xn, pi_xn, gi_xt, pi_xt, is_59, gi_mco, pi_mco, gi_mev, pi_mev, gr_59_2, gr_59_3, gi_mgt, pi_mgt, gr_59_5, gr_59_6, gr_59_7, gr_59_8, gi_mtp, pi_mtp, gr_59_10, gr_59_11, gr_59_12, gr_59_13, gr_59_14, gr_59_15, gi_mmy, pi_mmy, gr_59_17, gr_59_18, M_isEvent hM, hv, b32_0, if_true, sS1, upd_at, m_le0, if_false]
  | true =>
    obtain ⟨e, he, rfl⟩ := vd_of (by omega) hv
    cases hu : vd 3 u with
    | false =>
      have h0 : ¬ u = 0 := fun h => by rw [h] at hu; exact absurd hu (by decide)
      have h1 : ¬ u = 1 := fun h => by rw [h] at hu; exact absurd hu (by decide)
      have h2 : ¬ u = 2 := fun h => by rw [h] at hu; exact absurd hu (by decide)
      refine Cas.no I (k := 1) (by decide) ?_ ?_
      · simp only [f_L_hold, f_F_hold, Option.bind_some, is_0, gr_0_0, gr_0_1, gr_0_2, gr_0_3, gr_0_4, gr_0_5, gi_tp, pi_tp, gi_tf, pi_tf, gi_xf, pi_xf, is_1, gr_1_0, gr_1_1, gi_en, pi_en, is_4, gr_4_0, gr_4_1, gr_4_2, gr_4_3, gi_gn, pi_gn, is_9, gr_9_0, gr_9_1, gi_ts, pi_ts, gi_tw, pi_tw, gi_tc, pi_tc, is_40, gr_40_0, is_42, gr_42_0, gr_42_1, gi_dn, pi_dn, is_45, gr_45_0, gr_45_1, gi_xw, pi_xw, gi_xn, pi_xn, gi_xt, pi_xt, is_59, gi_mco, pi_mco, gi_mev, pi_mev, gr_59_2, gr_59_3, gi_mgt, pi_mgt, gr_59_5, gr_59_6, gr_59_7, gr_59_8, gi_mtp, pi_mtp, gr_59_10, gr_59_11, gr_59_12, gr_59_13, gr_59_14, gr_59_15, gi_mmy, pi_mmy, gr_59_17, gr_59_18, F_needEvent hE, hv, hx_inr, hl_inl, h0, h1, h2, if_false, if_true]
      · simp only [f_M_hold, f_M_hold_18, Option.bind_some, is_0, gr_0_0, gr_0_1, gr_0_2, gr_0_3, gr_0_4, gr_0_5, gi_tp, pi_tp, gi_tf, pi_tf, gi_xf, pi_xf, is_1, gr_1_0, gr_1_1, gi_en, pi_en, is_4, gr_4_0, gr_4_1, gr_4_2, gr_4_3, gi_gn, pi_gn, is_9, gr_9_0, gr_9_1, gi_ts, pi_ts, gi_tw, pi_tw, gi_tc, pi_tc, is_40, gr_40_0, is_42, gr_42_0, gr_42_1, gi_dn, pi_dn, is_45, gr_45_0, gr_45_1, gi_xw, pi_xw, gi_xn, pi_xn, gi_xt, pi_xt, is_59, gi_mco, pi_mco, gi_mev, pi_mev, gr_59_2, gr_59_3, gi_mgt, pi_mgt, gr_59_5, gr_59_6, gr_59_7, gr_59_8, gi_mtp, pi_mtp, gr_59_10, gr_59_11, gr_59_12, gr_59_13, gr_59_14, gr_59_15, gi_mmy, pi_mmy, gr_59_17, gr_59_18, M_isEvent hM, hv, b32_0, Bool.true_eq_false, if_false]
        rw [vd_if2 (k := 2) (by omega), hu]
        simp only [f_M_hold_23, Option.bind_some, is_0, gr_0_0, gr_0_1, gr_0_2, gr_0_3, gr_0_4, gr_0_5, gi_tp, pi_tp, gi_tf, pi_tf, gi_xf, pi_xf, is_1, gr_1_0, gr_1_1, gi_en, pi_en, is_4, gr_4_0, gr_4_1, gr_4_2, gr_4_3, gi_gn, pi_gn, is_9, gr_9_0, gr_9_1, gi_ts, pi_ts, gi_tw, pi_tw, gi_tc, pi_tc, is_40, gr_40_0, is_42, gr_42_0, gr_42_1, gi_dn, pi_dn, is_45, gr_45_0, gr_45_1, gi_xw, pi_xw, gi_xn, pi_xn, gi_xt, pi_xt, is_59, gi_mco, pi_mco, gi_mev, pi_mev, gr_59_2, gr_59_3, gi_mgt, pi_mgt, gr_59_5, gr_59_6, gr_59_7, gr_59_8, gi_mtp, pi_mtp, gr_59_10, gr_59_11, gr_59_12, gr_59_13, gr_59_14, gr_59_15, gi_mmy, pi_mmy, gr_59_17, gr_59_18, sS1, upd_at, Bool.false_eq_true, if_false, if_true, m_le0]
    | true =>
      obtain ⟨c, hc, rfl⟩ := vd_of (by omega) hu
      have he10 : e < 10 := by omega
      have hF : f_F_hold fu 0 (n32 e) (n32 c) (enc S) = f_F_hold_29 fu 0 (n32 e) (n32 c) (enc S) := by
        simp only [f_F_hold, Option.bind_some, is_0, gr_0_0, gr_0_1, gr_0_2, gr_0_3, gr_0_4, gr_0_5, gi_tp, pi_tp, gi_tf, pi_tf, gi_xf, pi_xf, is_1, gr_1_0, gr_1_1, gi_en, pi_en, is_4, gr_4_0, gr_4_1, gr_4_2, gr_4_3, gi_gn, pi_gn, is_9, gr_9_0, gr_9_1, gi_ts, pi_ts, gi_tw, pi_tw, gi_tc, pi_tc, is_40, gr_40_0, is_42, gr_42_0, gr_42_1, gi_dn, pi_dn, is_45, gr_45_0, gr_45_1, gi_xw, pi_xw, gi_xn, pi_xn, gi_xt, pi_xt, is_59, gi_mco, pi_mco, gi_mev, pi_mev, gr_59_2, gr_59_3, gi_mgt, pi_mgt, gr_59_5, gr_59_6, gr_59_7, gr_59_8, gi_mtp, pi_mtp, gr_59_10, gr_59_11, gr_59_12, gr_59_13, gr_59_14, gr_59_15, gi_mmy, pi_mmy, gr_59_17, gr_59_18, F_needEvent hE, hv, hx_inr, if_true]
        rcases (show c = 0 ∨ c = 1 ∨ c = 2 from by omega) with rfl | rfl | rfl <;> rfl
      refine ⟨0, sL (sS (sS (sI S 3 e (n32 c)) 0 7 0) 0 8 0) 74 0 (S.2.1 3 e).toInt64, S.2.1 61 e, sI (sS (sL (sS (sS (sI S 3 e (n32 c)) 0 7 0) 0 8 0) 74 0 (S.2.1 3 e).toInt64) 59 0 0) 61 e (n32 c), ?_, ?_, rfl, fun _ => ?_, (aE A, aG A, aC A, fun i => if i = e then c else aH A i, aK A, aV A, aX A, aT A), r, ?_⟩
      · simp only [f_L_hold, hF, f_F_hold_29, Option.bind_some, is_0, gr_0_0, gr_0_1, gr_0_2, gr_0_3, gr_0_4, gr_0_5, gi_tp, pi_tp, gi_tf, pi_tf, gi_xf, pi_xf, is_1, gr_1_0, gr_1_1, gi_en, pi_en, is_4, gr_4_0, gr_4_1, gr_4_2, gr_4_3, gi_gn, pi_gn, is_9, gr_9_0, gr_9_1, gi_ts, pi_ts, gi_tw, pi_tw, gi_tc, pi_tc, is_40, gr_40_0, is_42, gr_42_0, gr_42_1, gi_dn, pi_dn, is_45, gr_45_0, gr_45_1, gi_xw, pi_xw, gi_xn, pi_xn, gi_xt, pi_xt, is_59, gi_mco, pi_mco, gi_mev, pi_mev, gr_59_2, gr_59_3, gi_mgt, pi_mgt, gr_59_5, gr_59_6, gr_59_7, gr_59_8, gi_mtp, pi_mtp, gr_59_10, gr_59_11, gr_59_12, gr_59_13, gr_59_14, gr_59_15, gi_mmy, pi_mmy, gr_59_17, gr_59_18, F_forget, hl_inr, rd_ehd he10, wr_ehd he10, wr_out0]
      · have hM' : (sL (sS (sS (sI S 3 e (n32 c)) 0 7 0) 0 8 0) 74 0 (S.2.1 3 e).toInt64).1 59 1 = n32 (aE A) := hM
        simp only [f_M_hold, f_M_hold_18, Option.bind_some, is_0, gr_0_0, gr_0_1, gr_0_2, gr_0_3, gr_0_4, gr_0_5, gi_tp, pi_tp, gi_tf, pi_tf, gi_xf, pi_xf, is_1, gr_1_0, gr_1_1, gi_en, pi_en, is_4, gr_4_0, gr_4_1, gr_4_2, gr_4_3, gi_gn, pi_gn, is_9, gr_9_0, gr_9_1, gi_ts, pi_ts, gi_tw, pi_tw, gi_tc, pi_tc, is_40, gr_40_0, is_42, gr_42_0, gr_42_1, gi_dn, pi_dn, is_45, gr_45_0, gr_45_1, gi_xw, pi_xw, gi_xn, pi_xn, gi_xt, pi_xt, is_59, gi_mco, pi_mco, gi_mev, pi_mev, gr_59_2, gr_59_3, gi_mgt, pi_mgt, gr_59_5, gr_59_6, gr_59_7, gr_59_8, gi_mtp, pi_mtp, gr_59_10, gr_59_11, gr_59_12, gr_59_13, gr_59_14, gr_59_15, gi_mmy, pi_mmy, gr_59_17, gr_59_18, M_isEvent hM', hv, b32_0, Bool.true_eq_false, if_false]
        rw [vd_if2 (k := 2) (by omega), hu]
        simp only [f_M_hold_23, Option.bind_some, is_0, gr_0_0, gr_0_1, gr_0_2, gr_0_3, gr_0_4, gr_0_5, gi_tp, pi_tp, gi_tf, pi_tf, gi_xf, pi_xf, is_1, gr_1_0, gr_1_1, gi_en, pi_en, is_4, gr_4_0, gr_4_1, gr_4_2, gr_4_3, gi_gn, pi_gn, is_9, gr_9_0, gr_9_1, gi_ts, pi_ts, gi_tw, pi_tw, gi_tc, pi_tc, is_40, gr_40_0, is_42, gr_42_0, gr_42_1, gi_dn, pi_dn, is_45, gr_45_0, gr_45_1, gi_xw, pi_xw, gi_xn, pi_xn, gi_xt, pi_xt, is_59, gi_mco, pi_mco, gi_mev, pi_mev, gr_59_2, gr_59_3, gi_mgt, pi_mgt, gr_59_5, gr_59_6, gr_59_7, gr_59_8, gi_mtp, pi_mtp, gr_59_10, gr_59_11, gr_59_12, gr_59_13, gr_59_14, gr_59_15, gi_mmy, pi_mmy, gr_59_17, gr_59_18, sS1, sS2, sL2, sI2, upd_at, if_true, if_false, rd_mhd he10, wr_mhd he10, show (0 : Int32) ≤ 0 from by decide, show ¬ (61 = 3) from by decide]
      · show (S.2.1 3 e).toInt64 = (S.2.1 61 e).toInt64
        rw [(D.2.1 e he).2, (M.2.1 e he).2]
      · refine ⟨?_, ?_, ?_, fun h => absurd (show (0 : Int32) = 1 from h) (by decide), fun h => absurd (show (0 : Int32) = 1 from h) (by decide)⟩
        · obtain ⟨o1, o2, o3, o4, o5, o6, o7, o8⟩ := O
          refine ⟨o1, o2, fun i hi => ?_, o4, o5, o6, o7, o8⟩
          show aC A i ≤ 16 ∧ (if i = e then c else aH A i) ≤ 2
          refine ⟨(o3 i hi).1, ?_⟩
          split
          · omega
          · exact (o3 i hi).2
        · obtain ⟨d1, d2, d3, d4, d5, d6, d7, d8⟩ := D
          refine ⟨d1, fun i hi => ⟨(d2 i hi).1, ?_⟩, d3, d4, d5, d6, Or.inl rfl, Or.inl rfl⟩
          show (if i = e then n32 c else S.2.1 3 i) = n32 (if i = e then c else aH A i)
          split
          · rfl
          · exact (d2 i hi).2
        · obtain ⟨d1, d2, d3, d4, d5, d6⟩ := M
          refine ⟨d1, fun i hi => ⟨(d2 i hi).1, ?_⟩, d3, d4, d5, d6⟩
          show (if i = e then n32 c else S.2.1 61 i) = n32 (if i = e then c else aH A i)
          split
          · rfl
          · exact (d2 i hi).2
end
