/-! gate, top -/
section
variable {fu : Nat} {S : Ws} {A : Ab} {r : Nat → Nat}
theorem n32_z {a : Nat} (h : a < 2147483648) : n32 a = 0 ↔ a = 0 := n32_inj (b := 0) h (by omega)
theorem n32_lez {a : Nat} (h : a < 2147483648) : n32 a ≤ 0 ↔ a = 0 := (n32_le (b := 0) h (by omega)).trans (by omega)
/-- what a gate may be -/
def gd (v u : Int32) : Bool := vd 5 v && (if v = 2 then vd 5 u && decide (u ≠ 0) else decide (u = 0))
theorem gd_of {v u : Int32} (h : gd v u = true) : ∃ k c, k ≤ 4 ∧ c ≤ 4 ∧ v = n32 k ∧ u = n32 c ∧ (k = 2 ↔ c ≠ 0) := by
  unfold gd at h
  rw [Bool.and_eq_true] at h
  obtain ⟨k, hk, rfl⟩ := vd_of (by omega) h.1
  by_cases h2 : k = 2
  · subst h2
    rw [if_pos (show n32 2 = (2 : Int32) from rfl), Bool.and_eq_true] at h
    obtain ⟨c, hc, rfl⟩ := vd_of (by omega) h.2.1
    refine ⟨2, c, by omega, by omega, rfl, rfl, fun _ e => ?_, fun _ => rfl⟩
    subst e; exact absurd rfl (of_decide_eq_true h.2.2)
  · rw [if_neg (fun e => h2 ((nl_eq (by omega) (by omega)).mp e))] at h
    refine ⟨k, 0, by omega, by omega, rfl, of_decide_eq_true h.2, fun e => absurd e h2, fun e => absurd rfl e⟩
theorem F_gate {v u : Int32} : f_F_gate fu 0 v u (enc S) = (if gd v u = true then f_F_gate_51 fu 0 v u (enc S) else some (Sum.inl "java/lang/IllegalArgumentException", enc S)) := by
  simp only [f_F_gate, f_F_gate_9, f_F_gate_41]
  rw [vd_if2 (k := 4) (by omega)]
  unfold gd
  cases hv : vd 5 v with
  | false => simp
  | true =>
    by_cases h2 : v = 2
    · simp only [if_pos h2, if_true, Bool.true_and]
      by_cases h1 : u < 1
      · rw [if_pos h1, if_neg]
        intro h
        rw [Bool.and_eq_true] at h
        obtain ⟨c, hc, rfl⟩ := vd_of (by omega) h.1
        have : c < 1 := (nl_lt (by omega) (by omega)).mp h1
        obtain rfl : c = 0 := by omega
        exact absurd rfl (of_decide_eq_true h.2)
      · rw [if_neg h1]
        have h0 : ¬ u < 0 := fun h => h1 (by rw [Int32.lt_iff_toInt_lt] at h ⊢; simp at h ⊢; omega)
        obtain ⟨c, hc, rfl⟩ := n32_of h0
        have hc1 : ¬ c < 1 := fun h => h1 ((nl_lt hc (by omega)).mpr h)
        have hne : n32 c ≠ 0 := fun h => hc1 (by have := (n32_z hc).mp h; omega)
        by_cases h4 : c ≤ 4
        · rw [if_pos ((nl_le hc (by omega)).mpr h4), if_pos]
          rw [Bool.and_eq_true]
          exact ⟨vd_n (by omega) (by omega), decide_eq_true hne⟩
        · rw [if_neg (fun h => h4 ((nl_le hc (by omega)).mp h)), if_neg]
          intro h
          rw [Bool.and_eq_true] at h
          obtain ⟨c', hc', e⟩ := vd_of (by omega) h.1
          have := (n32_inj hc (by omega)).mp e
          omega
    · simp only [if_neg h2, if_true, Bool.true_and, decide_eq_true_eq]
theorem M_gate {v u : Int32} : f_M_gate fu 59 v u (enc S) = f_M_gate_45 fu 59 v u (b32 (gd v u)) (enc S) := by
  simp only [f_M_gate, f_M_gate_44, f_M_gate_28, f_M_gate_37]
  have e1 : ∀ (x y : Option (Int32 × List va_E)), (if v < 0 then x else if (4 : Int32) < v then x else y) = (if vd 5 v = true then y else x) := fun x y => by
    rw [← vd_if2 (k := 4) (by omega)]
    by_cases h : v < 0
    · rw [if_pos h, if_pos h]
    · rw [if_neg h, if_neg h]
      by_cases h4 : (4 : Int32) < v
      · rw [if_pos h4, if_neg (i32_not_le.mpr h4)]
      · rw [if_neg h4, if_pos (i32_not_lt.mp h4)]
  have e2 : ∀ (x y : Option (Int32 × List va_E)), (if u < 0 then x else if (4 : Int32) < u then x else y) = (if vd 5 u = true then y else x) := fun x y => by
    rw [← vd_if2 (k := 4) (by omega)]
    by_cases h : u < 0
    · rw [if_pos h, if_pos h]
    · rw [if_neg h, if_neg h]
      by_cases h4 : (4 : Int32) < u
      · rw [if_pos h4, if_neg (i32_not_le.mpr h4)]
      · rw [if_neg h4, if_pos (i32_not_lt.mp h4)]
  rw [e1, e2]
  unfold gd
  cases hv : vd 5 v with
  | false => simp [b32]
  | true =>
    cases hu : vd 5 u with
    | false =>
      by_cases h2 : v = 2
      · simp [h2, b32]
      · have : ¬ u = 0 := fun h => by rw [h] at hu; exact absurd hu (by decide)
        simp [h2, this, b32]
    | true =>
      obtain ⟨c, hc, rfl⟩ := vd_of (by omega) hu
      have hle : n32 c ≤ 0 ↔ n32 c = 0 := by
        rw [n32_lez (by omega), n32_z (by omega)]
      by_cases h2 : v = 2
      · by_cases h0 : n32 c = 0
        · simp [h2, h0, b32]
        · simp [h2, h0, hle, b32]
      · by_cases h0 : n32 c = 0
        · simp [h2, h0, b32]
        · simp [h2, h0, hle, b32]
theorem c_gate (I : Inv S A r) (v u : Int32) : Cas (f_L_gate fu 0 v u 74) (f_M_gate fu 59 v u) S := by
  obtain ⟨O, D, M, T, X⟩ := id I
  have hG := D.2.2.1; have hM := M.2.2.1
  have hn := O.2.1
  cases hv : gd v u with
  | false =>
    refine Cas.no I (k := 1) (by decide) ?_ ?_
    · simp only [f_L_gate, F_gate, Option.bind_some, is_0, gr_0_0, gr_0_1, gr_0_2, gr_0_3, gr_0_4, gr_0_5, gi_tp, pi_tp, gi_tf, pi_tf, gi_xf, pi_xf, is_1, gr_1_0, gr_1_1, gi_en, pi_en, is_4, gr_4_0, gr_4_1, gr_4_2, gr_4_3, gi_gn, pi_gn, is_9, gr_9_0, gr_9_1, gi_ts, pi_ts, gi_tw, pi_tw, gi_tc, pi_tc, is_40, gr_40_0, is_42, gr_42_0, gr_42_1, gi_dn, pi_dn, is_45, gr_45_0, gr_45_1, gi_xw, pi_xw, gi_xn, pi_xn, gi_xt, pi_xt, is_59, gi_mco, pi_mco, gi_mev, pi_mev, gr_59_2, gr_59_3, gi_mgt, pi_mgt, gr_59_5, gr_59_6, gr_59_7, gr_59_8, gi_mtp, pi_mtp, gr_59_10, gr_59_11, gr_59_12, gr_59_13, gr_59_14, gr_59_15, gi_mmy, pi_mmy, gr_59_17, gr_59_18, hv, hl_inl, Bool.false_eq_true, if_false, if_true]
    · rw [M_gate, hv]
      simp only [f_M_gate_45, f_M_gate_69, Option.bind_some, is_0, gr_0_0, gr_0_1, gr_0_2, gr_0_3, gr_0_4, gr_0_5, gi_tp, pi_tp, gi_tf, pi_tf, gi_xf, pi_xf, is_1, gr_1_0, gr_1_1, gi_en, pi_en, is_4, gr_4_0, gr_4_1, gr_4_2, gr_4_3, gi_gn, pi_gn, is_9, gr_9_0, gr_9_1, gi_ts, pi_ts, gi_tw, pi_tw, gi_tc, pi_tc, is_40, gr_40_0, is_42, gr_42_0, gr_42_1, gi_dn, pi_dn, is_45, gr_45_0, gr_45_1, gi_xw, pi_xw, gi_xn, pi_xn, gi_xt, pi_xt, is_59, gi_mco, pi_mco, gi_mev, pi_mev, gr_59_2, gr_59_3, gi_mgt, pi_mgt, gr_59_5, gr_59_6, gr_59_7, gr_59_8, gi_mtp, pi_mtp, gr_59_10, gr_59_11, gr_59_12, gr_59_13, gr_59_14, gr_59_15, gi_mmy, pi_mmy, gr_59_17, gr_59_18, b32_0, if_true, sS1, upd_at, m_le0, if_false]
  | true =>
    obtain ⟨k, c, hk, hc, rfl, rfl, hkc⟩ := gd_of hv
    by_cases h12 : aG A = 12
    · refine Cas.no I (k := 2) (by decide) ?_ ?_
      · simp only [f_L_gate, F_gate, f_F_gate_51, Option.bind_some, is_0, gr_0_0, gr_0_1, gr_0_2, gr_0_3, gr_0_4, gr_0_5, gi_tp, pi_tp, gi_tf, pi_tf, gi_xf, pi_xf, is_1, gr_1_0, gr_1_1, gi_en, pi_en, is_4, gr_4_0, gr_4_1, gr_4_2, gr_4_3, gi_gn, pi_gn, is_9, gr_9_0, gr_9_1, gi_ts, pi_ts, gi_tw, pi_tw, gi_tc, pi_tc, is_40, gr_40_0, is_42, gr_42_0, gr_42_1, gi_dn, pi_dn, is_45, gr_45_0, gr_45_1, gi_xw, pi_xw, gi_xn, pi_xn, gi_xt, pi_xt, is_59, gi_mco, pi_mco, gi_mev, pi_mev, gr_59_2, gr_59_3, gi_mgt, pi_mgt, gr_59_5, gr_59_6, gr_59_7, gr_59_8, gi_mtp, pi_mtp, gr_59_10, gr_59_11, gr_59_12, gr_59_13, gr_59_14, gr_59_15, gi_mmy, pi_mmy, gr_59_17, gr_59_18, hv, if_true, hG, h12]
        rfl
      · rw [M_gate, hv]
        simp only [f_M_gate_45, f_M_gate_69, Option.bind_some, is_0, gr_0_0, gr_0_1, gr_0_2, gr_0_3, gr_0_4, gr_0_5, gi_tp, pi_tp, gi_tf, pi_tf, gi_xf, pi_xf, is_1, gr_1_0, gr_1_1, gi_en, pi_en, is_4, gr_4_0, gr_4_1, gr_4_2, gr_4_3, gi_gn, pi_gn, is_9, gr_9_0, gr_9_1, gi_ts, pi_ts, gi_tw, pi_tw, gi_tc, pi_tc, is_40, gr_40_0, is_42, gr_42_0, gr_42_1, gi_dn, pi_dn, is_45, gr_45_0, gr_45_1, gi_xw, pi_xw, gi_xn, pi_xn, gi_xt, pi_xt, is_59, gi_mco, pi_mco, gi_mev, pi_mev, gr_59_2, gr_59_3, gi_mgt, pi_mgt, gr_59_5, gr_59_6, gr_59_7, gr_59_8, gi_mtp, pi_mtp, gr_59_10, gr_59_11, gr_59_12, gr_59_13, gr_59_14, gr_59_15, gi_mmy, pi_mmy, gr_59_17, gr_59_18, b32_0, Bool.true_eq_false, hM, h12, show n32 12 = (12 : Int32) from rfl, if_true, sS1, upd_at, m_le0, if_false]
    · have hlt : aG A < 12 := by omega
      refine ⟨0, sL (sS (sI (sI S 5 (aG A) (n32 k)) 6 (aG A) (n32 c)) 4 4 (n32 (aG A + 1))) 74 0 (n32 (aG A)).toInt64, n32 (aG A), sS (sI (sI (sS (sL (sS (sI (sI S 5 (aG A) (n32 k)) 6 (aG A) (n32 c)) 4 4 (n32 (aG A + 1))) 74 0 (n32 (aG A)).toInt64) 59 0 0) 62 (aG A) (n32 k)) 63 (aG A) (n32 c)) 59 4 (n32 (aG A + 1)), ?_, ?_, rfl, fun _ => rfl, (aE A, aG A + 1, aC A, aH A, fun i => if i = aG A then k else aK A i, fun i => if i = aG A then c else aV A i, aX A, aT A), r, ?_⟩
      · have h9 : n32 (aG A) < (12 : Int32) := (nl_lt (by omega) (by omega)).mpr hlt
        simp only [f_L_gate, F_gate, f_F_gate_51, Option.bind_some, is_0, gr_0_0, gr_0_1, gr_0_2, gr_0_3, gr_0_4, gr_0_5, gi_tp, pi_tp, gi_tf, pi_tf, gi_xf, pi_xf, is_1, gr_1_0, gr_1_1, gi_en, pi_en, is_4, gr_4_0, gr_4_1, gr_4_2, gr_4_3, gi_gn, pi_gn, is_9, gr_9_0, gr_9_1, gi_ts, pi_ts, gi_tw, pi_tw, gi_tc, pi_tc, is_40, gr_40_0, is_42, gr_42_0, gr_42_1, gi_dn, pi_dn, is_45, gr_45_0, gr_45_1, gi_xw, pi_xw, gi_xn, pi_xn, gi_xt, pi_xt, is_59, gi_mco, pi_mco, gi_mev, pi_mev, gr_59_2, gr_59_3, gi_mgt, pi_mgt, gr_59_5, gr_59_6, gr_59_7, gr_59_8, gi_mtp, pi_mtp, gr_59_10, gr_59_11, gr_59_12, gr_59_13, gr_59_14, gr_59_15, gi_mmy, pi_mmy, gr_59_17, gr_59_18, hv, hl_inr, if_true, hG, h9, f_G_add, sS1, sS2, upd_at, sI1, wr_gk hlt, wr_gv hlt, wr_out0, nl_add, nl_sub (show 1 ≤ aG A + 1 from by omega), Nat.add_sub_cancel]
      · have h9 : ¬ n32 (aG A) = (12 : Int32) := fun h => h12 ((nl_eq (by omega) (by omega)).mp h)
        have hM' : (sL (sS (sI (sI S 5 (aG A) (n32 k)) 6 (aG A) (n32 c)) 4 4 (n32 (aG A + 1))) 74 0 (n32 (aG A)).toInt64).1 59 4 = n32 (aG A) := hM
        rw [M_gate, hv]
        simp only [f_M_gate_45, f_M_gate_69, Option.bind_some, is_0, gr_0_0, gr_0_1, gr_0_2, gr_0_3, gr_0_4, gr_0_5, gi_tp, pi_tp, gi_tf, pi_tf, gi_xf, pi_xf, is_1, gr_1_0, gr_1_1, gi_en, pi_en, is_4, gr_4_0, gr_4_1, gr_4_2, gr_4_3, gi_gn, pi_gn, is_9, gr_9_0, gr_9_1, gi_ts, pi_ts, gi_tw, pi_tw, gi_tc, pi_tc, is_40, gr_40_0, is_42, gr_42_0, gr_42_1, gi_dn, pi_dn, is_45, gr_45_0, gr_45_1, gi_xw, pi_xw, gi_xn, pi_xn, gi_xt, pi_xt, is_59, gi_mco, pi_mco, gi_mev, pi_mev, gr_59_2, gr_59_3, gi_mgt, pi_mgt, gr_59_5, gr_59_6, gr_59_7, gr_59_8, gi_mtp, pi_mtp, gr_59_10, gr_59_11, gr_59_12, gr_59_13, gr_59_14, gr_59_15, gi_mmy, pi_mmy, gr_59_17, gr_59_18, b32_0, Bool.true_eq_false, sS1, sS2, sI1, upd_at, if_true, hM', h9, if_false, show (0 : Int32) ≤ 0 from by decide, wr_mkd hlt, wr_mls hlt, nl_add, nl_sub (show 1 ≤ aG A + 1 from by omega), Nat.add_sub_cancel, show ¬ (4 = 0) from by decide]
      · have ev_g : ∀ s t, t < aG A → evR (aE A, aG A + 1, aC A, aH A, (fun i => if i = aG A then k else aK A i), (fun i => if i = aG A then c else aV A i), aX A, aT A) r s t = evR A r s t := fun s t ht => by
          refine ev_uniq (A := A) (s := s) (P := fun g => g < aG A) O.2.2.2.2.2.2.1 (fun g h hg hh => by have := (O.2.2.2.2.2.1 g _ hh).2; have := O.1; omega) (fun g hg => ?_) (fun g hg => evR_eq O.2.2.2.2.2.2.1 s g) (r t + 1) t (by omega) ht
          rw [evR_eq (A := (aE A, aG A + 1, aC A, aH A, (fun i => if i = aG A then k else aK A i), (fun i => if i = aG A then c else aV A i), aX A, aT A)) O.2.2.2.2.2.2.1]
          unfold ge
          rw [show aK (aE A, aG A + 1, aC A, aH A, (fun i => if i = aG A then k else aK A i), (fun i => if i = aG A then c else aV A i), aX A, aT A) g = aK A g from if_neg (by omega), show aV (aE A, aG A + 1, aC A, aH A, (fun i => if i = aG A then k else aK A i), (fun i => if i = aG A then c else aV A i), aX A, aT A) g = aV A g from if_neg (by omega)]
        refine ⟨?_, ?_, ?_, ?_, ?_⟩
        · obtain ⟨o1, o2, o3, o4, o5, o6, o7, o8⟩ := O
          refine ⟨o1, hlt, o3, fun g hg => ?_, fun g => ⟨(o5 g).1, ?_⟩, fun g c hc => ⟨Nat.lt_succ_of_lt (o6 g c hc).1, ?_⟩, o7, fun t ht => Nat.lt_succ_of_lt (o8 t ht)⟩
          · show (if g = aG A then k else aK A g) ≤ 4 ∧ (if g = aG A then c else aV A g) ≤ 4 ∧ ((if g = aG A then k else aK A g) = 2 → 1 ≤ (if g = aG A then c else aV A g))
            have hg : g < aG A + 1 := hg
            by_cases h : g = aG A
            · simp only [if_pos h]; refine ⟨hk, hc, fun h2 => ?_⟩; have := hkc.mp h2; omega
            · simp only [if_neg h]; exact o4 g (by omega)
          · show (aX A g).length ≤ (if (if g = aG A then k else aK A g) = 4 then 1 else 4)
            by_cases h : g = aG A
            · have h0 : aX A g = [] := by
                cases hx : aX A g with
                | nil => rfl
                | cons y l => have := (o6 g y (by rw [hx]; simp)).1; omega
              rw [h0]; exact Nat.zero_le _
            · simp only [if_neg h]; exact (o5 g).2
          · show c < aE A ∨ 16 ≤ c ∧ c < 16 + (aG A + 1)
            have := (o6 g c hc).2; omega
        · obtain ⟨d1, d2, d3, d4, d5, d6, d7, d8⟩ := D
          refine ⟨d1, d2, rfl, fun i hi => ?_, d5, d6, d7, d8⟩
          show (if i = aG A then n32 k else S.2.1 5 i) = n32 (if i = aG A then k else aK A i) ∧ (if i = aG A then n32 c else S.2.1 6 i) = n32 (if i = aG A then c else aV A i)
          have hi : i < aG A + 1 := hi
          by_cases h : i = aG A
          · simp only [if_pos h]; exact ⟨trivial, trivial⟩
          · simp only [if_neg h]; exact d4 i (by omega)
        · obtain ⟨d1, d2, d3, d4, d5, d6⟩ := M
          refine ⟨d1, d2, rfl, fun i hi => ?_, d5, d6⟩
          show (if i = aG A then n32 k else S.2.1 62 i) = n32 (if i = aG A then k else aK A i) ∧ (if i = aG A then n32 c else S.2.1 63 i) = n32 (if i = aG A then c else aV A i)
          have hi : i < aG A + 1 := hi
          by_cases h : i = aG A
          · simp only [if_pos h]; exact ⟨trivial, trivial⟩
          · simp only [if_neg h]; exact d4 i (by omega)
        · intro h
          obtain ⟨t, a1, a2, a3, a4, a5⟩ := T h
          have ht := inv_tp I t a1
          refine ⟨t, a1, a2, a3, a4, fun s hs => ?_⟩
          show lb (upL S.2.2 74 0 _ (11 + (16 + t)) (s / 64)) (s % 64) = _
          rw [upL_ne (by omega)]
          exact (a5 s hs).trans (ev_g s t (O.2.2.2.2.2.2.2 t a1)).symm
        · intro h
          obtain ⟨t, a1, L, a2, a3, a4⟩ := X h
          refine ⟨t, a1, L, ?_, a3, a4⟩
          rw [show (fun s => evR (aE A, aG A + 1, aC A, aH A, (fun i => if i = aG A then k else aK A i), (fun i => if i = aG A then c else aV A i), aX A, aT A) r s t) = (fun s => evR A r s t) from funext (fun s => ev_g s t (O.2.2.2.2.2.2.2 t a1))]
          exact a2
theorem c_top (I : Inv S A r) (v : Int32) : ∃ k S1 S2, f_L_top fu 0 v (enc S) = some (k, enc S1) ∧ f_M_top fu 59 v (enc S1) = some (enc S2) ∧ S2.1 59 0 = k ∧ ∃ A r, Inv S2 A r := by
  obtain ⟨O, D, M, T, X⟩ := id I
  have hG := D.2.2.1; have hM := M.2.2.1
  have hn := O.2.1
  cases hv : vd (aG A) v with
  | false =>
    refine ⟨1, S, sS (sS S 59 0 1) 59 9 (S.1 59 9), ?_, ?_, rfl, A, r, I.cg rfl rfl rfl rfl rfl rfl rfl rfl (fun _ _ => rfl) (fun _ _ _ => rfl)⟩
    · simp only [f_L_top, f_F_top, Option.bind_some, is_0, gr_0_0, gr_0_1, gr_0_2, gr_0_3, gr_0_4, gr_0_5, gi_tp, pi_tp, gi_tf, pi_tf, gi_xf, pi_xf, is_1, gr_1_0, gr_1_1, gi_en, pi_en, is_4, gr_4_0, gr_4_1, gr_4_2, gr_4_3, gi_gn, pi_gn, is_9, gr_9_0, gr_9_1, gi_ts, pi_ts, gi_tw, pi_tw, gi_tc, pi_tc, is_40, gr_40_0, is_42, gr_42_0, gr_42_1, gi_dn, pi_dn, is_45, gr_45_0, gr_45_1, gi_xw, pi_xw, gi_xn, pi_xn, gi_xt, pi_xt, is_59, gi_mco, pi_mco, gi_mev, pi_mev, gr_59_2, gr_59_3, gi_mgt, pi_mgt, gr_59_5, gr_59_6, gr_59_7, gr_59_8, gi_mtp, pi_mtp, gr_59_10, gr_59_11, gr_59_12, gr_59_13, gr_59_14, gr_59_15, gi_mmy, pi_mmy, gr_59_17, gr_59_18, F_needGate hG, hv, hx_inl, hl_inl, Bool.false_eq_true, if_false, if_true]
    · simp only [f_M_top, f_M_top_14, f_M_top_33, Option.bind_some, is_0, gr_0_0, gr_0_1, gr_0_2, gr_0_3, gr_0_4, gr_0_5, gi_tp, pi_tp, gi_tf, pi_tf, gi_xf, pi_xf, is_1, gr_1_0, gr_1_1, gi_en, pi_en, is_4, gr_4_0, gr_4_1, gr_4_2, gr_4_3, gi_gn, pi_gn, is_9, gr_9_0, gr_9_1, gi_ts, pi_ts, gi_tw, pi_tw, gi_tc, pi_tc, is_40, gr_40_0, is_42, gr_42_0, gr_42_1, gi_dn, pi_dn, is_45, gr_45_0, gr_45_1, gi_xw, pi_xw, gi_xn, pi_xn, gi_xt, pi_xt, is_59, gi_mco, pi_mco, gi_mev, pi_mev, gr_59_2, gr_59_3, gi_mgt, pi_mgt, gr_59_5, gr_59_6, gr_59_7, gr_59_8, gi_mtp, pi_mtp, gr_59_10, gr_59_11, gr_59_12, gr_59_13, gr_59_14, gr_59_15, gi_mmy, pi_mmy, gr_59_17, gr_59_18, M_isGate hM, hv, b32_0, if_true, sS1, upd_at, m_le0, if_false, show ¬ (9 = 0) from by decide]
  | true =>
    obtain ⟨t, ht, rfl⟩ := vd_of (by omega) hv
    refine ⟨0, sS (sS (sS S 0 6 (n32 t)) 0 7 0) 0 8 0, sS (sS (sS (sS (sS S 0 6 (n32 t)) 0 7 0) 0 8 0) 59 0 0) 59 9 (n32 t), ?_, ?_, rfl, (aE A, aG A, aC A, aH A, aK A, aV A, aX A, some t), r, ?_⟩
    · simp only [f_L_top, f_F_top, Option.bind_some, is_0, gr_0_0, gr_0_1, gr_0_2, gr_0_3, gr_0_4, gr_0_5, gi_tp, pi_tp, gi_tf, pi_tf, gi_xf, pi_xf, is_1, gr_1_0, gr_1_1, gi_en, pi_en, is_4, gr_4_0, gr_4_1, gr_4_2, gr_4_3, gi_gn, pi_gn, is_9, gr_9_0, gr_9_1, gi_ts, pi_ts, gi_tw, pi_tw, gi_tc, pi_tc, is_40, gr_40_0, is_42, gr_42_0, gr_42_1, gi_dn, pi_dn, is_45, gr_45_0, gr_45_1, gi_xw, pi_xw, gi_xn, pi_xn, gi_xt, pi_xt, is_59, gi_mco, pi_mco, gi_mev, pi_mev, gr_59_2, gr_59_3, gi_mgt, pi_mgt, gr_59_5, gr_59_6, gr_59_7, gr_59_8, gi_mtp, pi_mtp, gr_59_10, gr_59_11, gr_59_12, gr_59_13, gr_59_14, gr_59_15, gi_mmy, pi_mmy, gr_59_17, gr_59_18, F_needGate hG, hv, hx_inr, hl_inr, if_true, F_forget]
    · have hM' : (sS (sS (sS S 0 6 (n32 t)) 0 7 0) 0 8 0).1 59 4 = n32 (aG A) := hM
      simp only [f_M_top, f_M_top_14, f_M_top_33, Option.bind_some, is_0, gr_0_0, gr_0_1, gr_0_2, gr_0_3, gr_0_4, gr_0_5, gi_tp, pi_tp, gi_tf, pi_tf, gi_xf, pi_xf, is_1, gr_1_0, gr_1_1, gi_en, pi_en, is_4, gr_4_0, gr_4_1, gr_4_2, gr_4_3, gi_gn, pi_gn, is_9, gr_9_0, gr_9_1, gi_ts, pi_ts, gi_tw, pi_tw, gi_tc, pi_tc, is_40, gr_40_0, is_42, gr_42_0, gr_42_1, gi_dn, pi_dn, is_45, gr_45_0, gr_45_1, gi_xw, pi_xw, gi_xn, pi_xn, gi_xt, pi_xt, is_59, gi_mco, pi_mco, gi_mev, pi_mev, gr_59_2, gr_59_3, gi_mgt, pi_mgt, gr_59_5, gr_59_6, gr_59_7, gr_59_8, gi_mtp, pi_mtp, gr_59_10, gr_59_11, gr_59_12, gr_59_13, gr_59_14, gr_59_15, gi_mmy, pi_mmy, gr_59_17, gr_59_18, M_isGate hM', hv, b32_0, Bool.true_eq_false, if_true, sS1, upd_at, if_false, show (0 : Int32) ≤ 0 from by decide]
    · obtain ⟨o1, o2, o3, o4, o5, o6, o7, o8⟩ := O
      obtain ⟨d1, d2, d3, d4, d5, d6, d7, d8⟩ := D
      obtain ⟨m1, m2, m3, m4, m5, m6⟩ := M
      exact ⟨⟨o1, o2, o3, o4, o5, o6, o7, fun k hk => by obtain rfl := Option.some.inj hk; exact ht⟩, ⟨d1, d2, d3, d4, d5, rfl, Or.inl rfl, Or.inl rfl⟩, ⟨m1, m2, m3, m4, m5, rfl⟩, fun h => absurd (show (0 : Int32) = 1 from h) (by decide), fun h => absurd (show (0 : Int32) = 1 from h) (by decide)⟩
end
