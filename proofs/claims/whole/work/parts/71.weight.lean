/-! weight -/
section
variable {fu : Nat} {S : Ws} {A : Ab} {r : Nat → Nat}
theorem Vf_sub {p p1 p2 : Nat → Bool → Int64} {f f1 f2 : Nat → Bool} {e0 : Nat} (h1 : ∀ k, k ≠ e0 → p1 k = p k) (h2 : ∀ k, k ≠ e0 → p2 k = p k) (a0 : p e0 false = -16) (a1 : p e0 true = 16) (b0 : p1 e0 false = 16) (b1 : p1 e0 true = 0) (c0 : p2 e0 false = 0) (c1 : p2 e0 true = 16) (g1 : ∀ a i, i < 2 ^ e0 → f (2 * a * 2 ^ e0 + i) = f1 (2 * a * 2 ^ e0 + i)) (g2 : ∀ a i, i < 2 ^ e0 → f ((2 * a + 1) * 2 ^ e0 + i) = f2 ((2 * a + 1) * 2 ^ e0 + i)) : ∀ (e j : Nat), e0 < e → Vf p f e j = Vf p2 f2 e j - Vf p1 f1 e j
  | 0, _, h => absurd h (by omega)
  | e + 1, j, h => by
    show p e false * Vf p f e (2 * j) + p e true * Vf p f e (2 * j + 1) = (p2 e false * Vf p2 f2 e (2 * j) + p2 e true * Vf p2 f2 e (2 * j + 1)) - (p1 e false * Vf p1 f1 e (2 * j) + p1 e true * Vf p1 f1 e (2 * j + 1))
    by_cases he : e = e0
    · subst he
      have q1 : Vf p f e (2 * j) = Vf p1 f1 e (2 * j) := Vf_cong e _ _ (fun k hk => (h1 k (by omega)).symm) (fun i hi => g1 j i hi)
      have q2 : Vf p f e (2 * j + 1) = Vf p2 f2 e (2 * j + 1) := Vf_cong e _ _ (fun k hk => (h2 k (by omega)).symm) (fun i hi => g2 j i hi)
      rw [q1, q2, a0, a1, b0, b1, c0, c1, Int64.zero_mul, Int64.zero_mul, Int64.zero_add, Int64.add_zero, Int64.neg_mul, Int64.add_comm, ← Int64.sub_eq_add_neg]
    · rw [Vf_sub h1 h2 a0 a1 b0 b1 c0 c1 g1 g2 e (2 * j) (by omega), Vf_sub h1 h2 a0 a1 b0 b1 c0 c1 g1 g2 e (2 * j + 1) (by omega), h1 e he, h2 e he]
      generalize Vf p2 f2 e (2 * j) = x1
      generalize Vf p1 f1 e (2 * j) = x2
      generalize Vf p2 f2 e (2 * j + 1) = x3
      generalize Vf p1 f1 e (2 * j + 1) = x4
      generalize p e false = y1
      generalize p e true = y2
      grind
/-- another hold of one event -/
def setH (A : Ab) (e h : Nat) : Ab := (aE A, aG A, aC A, fun i => if i = e then h else aH A i, aK A, aV A, aX A, aT A)
theorem Ok.set (O : Ok A r) {e h : Nat} (hh : h ≤ 2) : Ok (setH A e h) r :=
  ⟨O.1, O.2.1, fun i hi => ⟨(O.2.2.1 i hi).1, by
    show (if i = e then h else aH A i) ≤ 2
    by_cases hi2 : i = e
    · rw [if_pos hi2]; exact hh
    · rw [if_neg hi2]; exact (O.2.2.1 i hi).2⟩, O.2.2.2.1, O.2.2.2.2.1, O.2.2.2.2.2.1, O.2.2.2.2.2.2.1, O.2.2.2.2.2.2.2⟩
theorem RM.set (M : RM S A) {e h : Nat} (he : e < aE A) : RM (sI S 61 e (n32 h)) (setH A e h) := by
  obtain ⟨m1, m2, m3, m4, m5, m6⟩ := M
  refine ⟨m1, fun i hi => ⟨(m2 i hi).1, ?_⟩, m3, m4, m5, m6⟩
  show (sI S 61 e (n32 h)).2.1 61 i = n32 (if i = e then h else aH A i)
  rw [sI2, if_pos rfl, upd_at]
  by_cases hi2 : i = e
  · rw [if_pos hi2, if_pos hi2]
  · rw [if_neg hi2, if_neg hi2]; exact (m2 i hi).2
theorem ev_set {e h s : Nat} {b : Bool} (he : e < 16) (hb : s.testBit e = b) (hh : h ≠ 0) (h2 : decide (h = 2) = b) {n g : Nat} : ev (setH A e 0) s n g = ev (setH A e h) s n g := by
  refine ev_same (A := setH A e 0) (A' := setH A e h) rfl rfl rfl (fun f c => ?_) n g
  unfold cv
  by_cases hc : 16 ≤ c
  · rw [if_pos hc, if_pos hc]
  · rw [if_neg hc, if_neg hc]
    show (if (if c = e then 0 else aH A c) = 0 then s.testBit c else decide ((if c = e then 0 else aH A c) = 2)) = (if (if c = e then h else aH A c) = 0 then s.testBit c else decide ((if c = e then h else aH A c) = 2))
    by_cases hce : c = e
    · subst hce
      rw [if_pos rfl, if_pos rfl, if_pos rfl, if_neg hh, h2, hb]
    · rw [if_neg hce, if_neg hce]
/-- the swing of an event -/
theorem swing (O : Ok A r) {e0 t : Nat} (he : e0 < aE A) : Vf (pO (aC A) (n32 e0)) (fun s => evR (setH A e0 0) r s t) (aE A) 0 = Vf (mO (aC A) (aH (setH A e0 2))) (fun s => evR (setH A e0 2) r s t) (aE A) 0 - Vf (mO (aC A) (aH (setH A e0 1))) (fun s => evR (setH A e0 1) r s t) (aE A) 0 := by
  have hE := O.1
  have O1 := O.set (e := e0) (h := 1) (by omega)
  have O2 := O.set (e := e0) (h := 2) (by omega)
  have q1 := Vf_eq (p := fun k => if k = e0 then mO (aC A) (aH (setH A e0 1)) k else pO (aC A) (-1) k) (m := mO (aC A) (aH (setH A e0 1))) (f := fun s => evR (setH A e0 1) r s t) (aE A) (fun k hk => by
    by_cases hke : k = e0
    · left; rw [if_pos hke]
    · rw [if_neg hke]; exact pm_eq O1 k hk) 0
  have q2 := Vf_eq (p := fun k => if k = e0 then mO (aC A) (aH (setH A e0 2)) k else pO (aC A) (-1) k) (m := mO (aC A) (aH (setH A e0 2))) (f := fun s => evR (setH A e0 2) r s t) (aE A) (fun k hk => by
    by_cases hke : k = e0
    · left; rw [if_pos hke]
    · rw [if_neg hke]; exact pm_eq O2 k hk) 0
  rw [← q1, ← q2]
  have pk : ∀ k, k ≠ e0 → k < aE A → pO (aC A) (-1) k = pO (aC A) (n32 e0) k := fun k hk hkE => by
    funext b
    unfold pO
    rw [if_neg (n32_m1 (by omega)), if_neg (fun q => hk ((n32_inj (by omega) (by omega)).mp q))]
  rw [Vf_cong (p := pO (aC A) (n32 e0)) (p' := fun k => if k = e0 then pO (aC A) (n32 e0) k else pO (aC A) (-1) k) (f' := fun s => evR (setH A e0 0) r s t) (aE A) 0 0 (fun k hk => by
    by_cases hke : k = e0
    · rw [if_pos hke]
    · rw [if_neg hke]; exact (pk k hke hk).symm) (fun i hi => rfl)]
  refine Vf_sub (e0 := e0) (fun k hk => ?_) (fun k hk => ?_) ?_ ?_ ?_ ?_ ?_ ?_ (fun a i hi => ?_) (fun a i hi => ?_) (aE A) 0 he
  · rw [if_neg hk, if_neg hk]
  · rw [if_neg hk, if_neg hk]
  · rw [if_pos rfl]; unfold pO; rw [if_pos rfl]; decide
  · rw [if_pos rfl]; unfold pO; rw [if_pos rfl]; decide
  · rw [if_pos rfl]; unfold mO
    rw [show aH (setH A e0 1) e0 = 1 from if_pos rfl, if_neg (by decide)]; decide
  · rw [if_pos rfl]; unfold mO
    rw [show aH (setH A e0 1) e0 = 1 from if_pos rfl, if_neg (by decide)]; decide
  · rw [if_pos rfl]; unfold mO
    rw [show aH (setH A e0 2) e0 = 2 from if_pos rfl, if_neg (by decide)]; decide
  · rw [if_pos rfl]; unfold mO
    rw [show aH (setH A e0 2) e0 = 2 from if_pos rfl, if_neg (by decide)]; decide
  · exact ev_set (b := false) (by omega) (by rw [tb_m hi, if_neg (by omega), Nat.sub_self]; simp) (by omega) (by decide)
  · exact ev_set (b := true) (by omega) (by rw [tb_m hi, if_neg (by omega), Nat.sub_self]; simp) (by omega) (by decide)
theorem F_wt (I : Inv S A r) {t e0 : Nat} (ht : aT A = some t) (he : e0 < aE A) (hfu : 2000 ≤ fu) : ∃ U, Inv U A r ∧ U.2.2 74 = S.2.2 74 ∧ f_F_weight fu 0 (n32 e0) (enc S) = some (Sum.inr (Vf (pO (aC A) (n32 e0)) (fun s => evR (setH A e0 0) r s t) (aE A) 0), enc U) := by
  obtain ⟨O, D, M, T, X⟩ := id I
  have hT := D.2.2.2.2.2.1
  have htg := O.2.2.2.2.2.2.2 t ht
  have hG := O.2.1
  have hE := O.1
  rw [ht] at hT
  have hve := vd_n (n := aE A) (k := e0) (by omega) he
  by_cases h0 : aH A e0 = 0
  · obtain ⟨U, F, IU, B, eU⟩ := F_fresh (fu := fu) I ht (by omega)
    have hf : (fun s => evR A r s t) = (fun s => evR (setH A e0 0) r s t) := funext (fun s => ev_same (A := A) (A' := setH A e0 0) (s := s) (s' := s) rfl rfl rfl (fun f c => by
      have : aH (setH A e0 0) = aH A := funext (fun i => by
        show (if i = e0 then 0 else aH A i) = aH A i
        by_cases hi : i = e0
        · rw [if_pos hi, hi, h0]
        · rw [if_neg hi])
      rw [this]) _ _)
    rw [hf] at B
    obtain ⟨V, v1, v2⟩ := O_total (fu := fu) (S := U) (C := aC A) (v3 := n32 e0) hE (show t < 12 by omega) B IU.2.1.1 (fun e he => (IU.2.1.2.1 e he).1) hfu
    refine ⟨V, IU.l41 v1, by rw [v1.2.2 74 (by omega), F.2.2.2 74 (by omega)], ?_⟩
    simp only [f_F_weight, f_F_weight_53, Option.bind_some, is_0, gr_0_0, gr_0_1, gr_0_2, gr_0_3, gr_0_4, gr_0_5, gi_tp, pi_tp, gi_tf, pi_tf, gi_xf, pi_xf, is_1, gr_1_0, gr_1_1, gi_en, pi_en, is_4, gr_4_0, gr_4_1, gr_4_2, gr_4_3, gi_gn, pi_gn, is_9, gr_9_0, gr_9_1, gi_ts, pi_ts, gi_tw, pi_tw, gi_tc, pi_tc, is_40, gr_40_0, is_42, gr_42_0, gr_42_1, gi_dn, pi_dn, is_45, gr_45_0, gr_45_1, gi_xw, pi_xw, gi_xn, pi_xn, gi_xt, pi_xt, is_59, gi_mco, pi_mco, gi_mev, pi_mev, gr_59_2, gr_59_3, gi_mgt, pi_mgt, gr_59_5, gr_59_6, gr_59_7, gr_59_8, gi_mtp, pi_mtp, gr_59_10, gr_59_11, gr_59_12, gr_59_13, gr_59_14, gr_59_15, gi_mmy, pi_mmy, gr_59_17, gr_59_18, F_needEvent D.1, hve, if_true, hx_inr, F_needTop (t := some t) (fun k h => by obtain rfl := Option.some.inj h; omega) hT, rd_ehd (show e0 < 10 by omega), (D.2.1 e0 he).2, h0, show n32 0 = 0 from rfl, eU, v2]
  · obtain ⟨U, ⟨u1, u2, u3⟩, u4, u5, u6, u7, u8⟩ := T_fill (fu := fu) (S := S) (A := setH A e0 0) (O.set (e := e0) (h := 0) (by omega)) D.rg htg D.1 (n32 e0) (fun e hee => by
      show _ = n32 (if e = e0 then 0 else aH A e)
      have hee' : e < aE A := hee
      by_cases hq : e = e0
      · rw [if_pos hq, if_pos (by rw [hq])]; rfl
      · rw [if_neg hq, if_neg (fun q => hq ((n32_inj (by omega) (by omega)).mp q))]; exact (D.2.1 e hee').2) (by omega)
    have B : Tb (sS U 0 7 0) (aE A) t (fun s => evR (setH A e0 0) r s t) := ⟨u4, u5, u6, fun s hs => by
      have := u7 (s / 64) (by have hs' : s < 64 * wo (aE A) := hs; show s / 64 < wo (aE A); omega) (s % 64) (by omega)
      rw [show 64 * (s / 64) + s % 64 = s from by omega] at this
      exact this⟩
    have F : FrF S (sS U 0 7 0) := ⟨fun q h0 h9 => by rw [sS1, if_neg h0]; exact u1 q h9, fun k hk => by rw [sS1, if_pos rfl, upd_at, if_neg hk]; exact congrFun (u1 0 (by omega)) k, u2, u3⟩
    have IU : Inv (sS U 0 7 0) A r := I.fr F (Or.inl rfl) (fun h => absurd h (by show ¬ (0 : Int32) = 1; decide))
    obtain ⟨V, v1, v2⟩ := O_total (fu := fu) (S := sS U 0 7 0) (C := aC A) (v3 := n32 e0) hE (show t < 12 by omega) B IU.2.1.1 (fun e he => (IU.2.1.2.1 e he).1) hfu
    refine ⟨V, IU.l41 v1, by rw [v1.2.2 74 (by omega), F.2.2.2 74 (by omega)], ?_⟩
    have hh := (O.2.2.1 e0 he).2
    have hn0 : ¬ n32 (aH A e0) = 0 := fun q => h0 ((n32_z (by omega)).mp q)
    simp only [f_F_weight, f_F_weight_53, Option.bind_some, is_0, gr_0_0, gr_0_1, gr_0_2, gr_0_3, gr_0_4, gr_0_5, gi_tp, pi_tp, gi_tf, pi_tf, gi_xf, pi_xf, is_1, gr_1_0, gr_1_1, gi_en, pi_en, is_4, gr_4_0, gr_4_1, gr_4_2, gr_4_3, gi_gn, pi_gn, is_9, gr_9_0, gr_9_1, gi_ts, pi_ts, gi_tw, pi_tw, gi_tc, pi_tc, is_40, gr_40_0, is_42, gr_42_0, gr_42_1, gi_dn, pi_dn, is_45, gr_45_0, gr_45_1, gi_xw, pi_xw, gi_xn, pi_xn, gi_xt, pi_xt, is_59, gi_mco, pi_mco, gi_mev, pi_mev, gr_59_2, gr_59_3, gi_mgt, pi_mgt, gr_59_5, gr_59_6, gr_59_7, gr_59_8, gi_mtp, pi_mtp, gr_59_10, gr_59_11, gr_59_12, gr_59_13, gr_59_14, gr_59_15, gi_mmy, pi_mmy, gr_59_17, gr_59_18, F_needEvent D.1, hve, if_true, hx_inr, F_needTop (t := some t) (fun k h => by obtain rfl := Option.some.inj h; omega) hT, rd_ehd (show e0 < 10 by omega), (D.2.1 e0 he).2, if_neg hn0, hT, u8, pz_tf (Or.inl rfl), v2]
theorem c_weight (I : Inv S A r) (v : Int32) (hfu : 2000 ≤ fu) : CasL (f_L_weight fu 0 v 74) (f_M_weight fu 59 v) S := by
  obtain ⟨O, D, M, T, X⟩ := id I
  have hT := D.2.2.2.2.2.1
  have hE := O.1
  cases hv : vd (aE A) v with
  | false =>
    refine ⟨1, S, 0, sS S 59 0 1, ?_, ?_, rfl, fun h => absurd h (by decide), A, r, I.code 1⟩
    · simp only [f_L_weight, f_F_weight, Option.bind_some, is_0, gr_0_0, gr_0_1, gr_0_2, gr_0_3, gr_0_4, gr_0_5, gi_tp, pi_tp, gi_tf, pi_tf, gi_xf, pi_xf, is_1, gr_1_0, gr_1_1, gi_en, pi_en, is_4, gr_4_0, gr_4_1, gr_4_2, gr_4_3, gi_gn, pi_gn, is_9, gr_9_0, gr_9_1, gi_ts, pi_ts, gi_tw, pi_tw, gi_tc, pi_tc, is_40, gr_40_0, is_42, gr_42_0, gr_42_1, gi_dn, pi_dn, is_45, gr_45_0, gr_45_1, gi_xw, pi_xw, gi_xn, pi_xn, gi_xt, pi_xt, is_59, gi_mco, pi_mco, gi_mev, pi_mev, gr_59_2, gr_59_3, gi_mgt, pi_mgt, gr_59_5, gr_59_6, gr_59_7, gr_59_8, gi_mtp, pi_mtp, gr_59_10, gr_59_11, gr_59_12, gr_59_13, gr_59_14, gr_59_15, gi_mmy, pi_mmy, gr_59_17, gr_59_18, F_needEvent D.1, hv, if_neg (show ¬ false = true by decide), hx_inl, hl_inl, if_true]
    · simp only [f_M_weight, Option.bind_some, is_0, gr_0_0, gr_0_1, gr_0_2, gr_0_3, gr_0_4, gr_0_5, gi_tp, pi_tp, gi_tf, pi_tf, gi_xf, pi_xf, is_1, gr_1_0, gr_1_1, gi_en, pi_en, is_4, gr_4_0, gr_4_1, gr_4_2, gr_4_3, gi_gn, pi_gn, is_9, gr_9_0, gr_9_1, gi_ts, pi_ts, gi_tw, pi_tw, gi_tc, pi_tc, is_40, gr_40_0, is_42, gr_42_0, gr_42_1, gi_dn, pi_dn, is_45, gr_45_0, gr_45_1, gi_xw, pi_xw, gi_xn, pi_xn, gi_xt, pi_xt, is_59, gi_mco, pi_mco, gi_mev, pi_mev, gr_59_2, gr_59_3, gi_mgt, pi_mgt, gr_59_5, gr_59_6, gr_59_7, gr_59_8, gi_mtp, pi_mtp, gr_59_10, gr_59_11, gr_59_12, gr_59_13, gr_59_14, gr_59_15, gi_mmy, pi_mmy, gr_59_17, gr_59_18, M_isEvent M.1, hv]; rfl
  | true =>
    obtain ⟨e0, he, rfl⟩ := vd_of (by omega) hv
    cases ht : aT A with
    | none =>
      rw [ht] at hT
      refine ⟨2, S, 0, sS S 59 0 2, ?_, ?_, rfl, fun h => absurd h (by decide), A, r, I.code 2⟩
      · simp only [f_L_weight, f_F_weight, Option.bind_some, is_0, gr_0_0, gr_0_1, gr_0_2, gr_0_3, gr_0_4, gr_0_5, gi_tp, pi_tp, gi_tf, pi_tf, gi_xf, pi_xf, is_1, gr_1_0, gr_1_1, gi_en, pi_en, is_4, gr_4_0, gr_4_1, gr_4_2, gr_4_3, gi_gn, pi_gn, is_9, gr_9_0, gr_9_1, gi_ts, pi_ts, gi_tw, pi_tw, gi_tc, pi_tc, is_40, gr_40_0, is_42, gr_42_0, gr_42_1, gi_dn, pi_dn, is_45, gr_45_0, gr_45_1, gi_xw, pi_xw, gi_xn, pi_xn, gi_xt, pi_xt, is_59, gi_mco, pi_mco, gi_mev, pi_mev, gr_59_2, gr_59_3, gi_mgt, pi_mgt, gr_59_5, gr_59_6, gr_59_7, gr_59_8, gi_mtp, pi_mtp, gr_59_10, gr_59_11, gr_59_12, gr_59_13, gr_59_14, gr_59_15, gi_mmy, pi_mmy, gr_59_17, gr_59_18, F_needEvent D.1, hv, if_true, hx_inr, F_needTop (t := none) (fun _ h => by cases h) hT, hx_inl, hl_inl]; rfl
      · simp only [f_M_weight, Option.bind_some, is_0, gr_0_0, gr_0_1, gr_0_2, gr_0_3, gr_0_4, gr_0_5, gi_tp, pi_tp, gi_tf, pi_tf, gi_xf, pi_xf, is_1, gr_1_0, gr_1_1, gi_en, pi_en, is_4, gr_4_0, gr_4_1, gr_4_2, gr_4_3, gi_gn, pi_gn, is_9, gr_9_0, gr_9_1, gi_ts, pi_ts, gi_tw, pi_tw, gi_tc, pi_tc, is_40, gr_40_0, is_42, gr_42_0, gr_42_1, gi_dn, pi_dn, is_45, gr_45_0, gr_45_1, gi_xw, pi_xw, gi_xn, pi_xn, gi_xt, pi_xt, is_59, gi_mco, pi_mco, gi_mev, pi_mev, gr_59_2, gr_59_3, gi_mgt, pi_mgt, gr_59_5, gr_59_6, gr_59_7, gr_59_8, gi_mtp, pi_mtp, gr_59_10, gr_59_11, gr_59_12, gr_59_13, gr_59_14, gr_59_15, gi_mmy, pi_mmy, gr_59_17, gr_59_18, M_isEvent M.1, hv, b32_0, Bool.true_eq_false, if_false, M_lacks0 M ht (v := 2) (by decide), if_neg (show ¬ (1 : Int32) = 0 by decide)]
    | some t =>
      obtain ⟨U, IU, hU74, eU⟩ := F_wt (fu := fu) I ht he hfu
      rw [swing O he] at eU
      generalize hy : Vf (mO (aC A) (aH (setH A e0 2))) (fun s => evR (setH A e0 2) r s t) (aE A) 0 = y2 at eU
      generalize hz : Vf (mO (aC A) (aH (setH A e0 1))) (fun s => evR (setH A e0 1) r s t) (aE A) 0 = y1 at eU
      obtain ⟨W, w1, w2, w3⟩ := M_lacks1 (fu := fu) (S := sL U 74 0 (y2 - y1)) O (IU.out _).2.2.1 ht (v := 2) hfu
      have IW := ((IU.out (y2 - y1)).code 0).frw w1
      have M2 : RM (sI W 61 e0 (n32 2)) (setH A e0 2) := IW.2.2.1.set he
      have O2 := O.set (e := e0) (h := 2) (by omega)
      have O1 := O.set (e := e0) (h := 1) (by omega)
      obtain ⟨W2, a1, a2, a3⟩ := M_work (fu := fu) O2 M2 ht hfu
      have M2' : RM W2 (setH A e0 2) := M2.fr a1.1 (fun q h1 h2 => a1.2.2 q (by omega) (by omega) (by omega) (by omega) (by omega))
      have s2 := M_sum (fu := fu) (S := W2) (n := aE A) (f := fun s => evR (setH A e0 2) r s t) (C := aC A) (H := aH (setH A e0 2)) hE M2'.1 (fun e he => (M2'.2.1 e he).1) (fun e he => ⟨(O2.2.2.1 e he).2, (M2'.2.1 e he).2⟩) a2 hfu
      have M1 : RM (sI W2 61 e0 (n32 1)) (setH A e0 1) := by
        have := RM.set (S := W2) (A := setH A e0 2) M2' (e := e0) (h := 1) he
        have e2 : setH (setH A e0 2) e0 1 = setH A e0 1 := by
          unfold setH
          have : (fun i => if i = e0 then 1 else if i = e0 then 2 else aH A i) = (fun i => if i = e0 then 1 else aH A i) := funext (fun i => by
            by_cases hi : i = e0
            · rw [if_pos hi, if_pos hi]
            · rw [if_neg hi, if_neg hi, if_neg hi])
          show (aE A, aG A, aC A, (fun i => if i = e0 then 1 else if i = e0 then 2 else aH A i), aK A, aV A, aX A, aT A) = _
          rw [this]
        rw [e2] at this; exact this
      obtain ⟨W1, c1, c2, c3⟩ := M_work (fu := fu) O1 M1 ht hfu
      have M1' : RM W1 (setH A e0 1) := M1.fr c1.1 (fun q h1 h2 => c1.2.2 q (by omega) (by omega) (by omega) (by omega) (by omega))
      have s1 := M_sum (fu := fu) (S := W1) (n := aE A) (f := fun s => evR (setH A e0 1) r s t) (C := aC A) (H := aH (setH A e0 1)) hE M1'.1 (fun e he => (M1'.2.1 e he).1) (fun e he => ⟨(O1.2.2.1 e he).2, (M1'.2.1 e he).2⟩) c2 hfu
      rw [hy] at s2
      rw [hz] at s1
      have g1 : W1.1 = W.1 := by rw [c1.1]; show W2.1 = W.1; rw [a1.1]; rfl
      have g2 : W1.2.2 = W.2.2 := by rw [c1.2.1]; show W2.2.2 = W.2.2; rw [a1.2.1]; rfl
      have g3 : ∀ q, q ≠ 61 → q ≠ 66 → q ≠ 67 → q ≠ 68 → q ≠ 69 → q ≠ 70 → W1.2.1 q = W.2.1 q := fun q h1 h2 h3 h4 h5 h6 => by
        rw [c1.2.2 q h2 h3 h4 h5 h6, sI2, if_neg h1, a1.2.2 q h2 h3 h4 h5 h6, sI2, if_neg h1]
      have g4 : ∀ i, i ≠ e0 → W1.2.1 61 i = W.2.1 61 i := fun i hi => by
        rw [c1.2.2 61 (by omega) (by omega) (by omega) (by omega) (by omega), sI2, if_pos rfl, upd_at, if_neg hi, a1.2.2 61 (by omega) (by omega) (by omega) (by omega) (by omega), sI2, if_pos rfl, upd_at, if_neg hi]
      refine ⟨0, sL U 74 0 (y2 - y1), y2 - y1, sI W1 61 e0 (W.2.1 61 e0), ?_, ?_, ?_, fun _ => ?_, A, r, ?_⟩
      · simp only [f_L_weight, Option.bind_some, is_0, gr_0_0, gr_0_1, gr_0_2, gr_0_3, gr_0_4, gr_0_5, gi_tp, pi_tp, gi_tf, pi_tf, gi_xf, pi_xf, is_1, gr_1_0, gr_1_1, gi_en, pi_en, is_4, gr_4_0, gr_4_1, gr_4_2, gr_4_3, gi_gn, pi_gn, is_9, gr_9_0, gr_9_1, gi_ts, pi_ts, gi_tw, pi_tw, gi_tc, pi_tc, is_40, gr_40_0, is_42, gr_42_0, gr_42_1, gi_dn, pi_dn, is_45, gr_45_0, gr_45_1, gi_xw, pi_xw, gi_xn, pi_xn, gi_xt, pi_xt, is_59, gi_mco, pi_mco, gi_mev, pi_mev, gr_59_2, gr_59_3, gi_mgt, pi_mgt, gr_59_5, gr_59_6, gr_59_7, gr_59_8, gi_mtp, pi_mtp, gr_59_10, gr_59_11, gr_59_12, gr_59_13, gr_59_14, gr_59_15, gi_mmy, pi_mmy, gr_59_17, gr_59_18, eU, hl_inr, wr_out0]
      · have a3' : f_M_work fu 59 (enc (sI W 61 e0 (2 : Int32))) = some (enc W2) := a3
        have c3' : f_M_work fu 59 (enc (sI W2 61 e0 (1 : Int32))) = some (enc W1) := c3
        simp only [f_M_weight, Option.bind_some, is_0, gr_0_0, gr_0_1, gr_0_2, gr_0_3, gr_0_4, gr_0_5, gi_tp, pi_tp, gi_tf, pi_tf, gi_xf, pi_xf, is_1, gr_1_0, gr_1_1, gi_en, pi_en, is_4, gr_4_0, gr_4_1, gr_4_2, gr_4_3, gi_gn, pi_gn, is_9, gr_9_0, gr_9_1, gi_ts, pi_ts, gi_tw, pi_tw, gi_tc, pi_tc, is_40, gr_40_0, is_42, gr_42_0, gr_42_1, gi_dn, pi_dn, is_45, gr_45_0, gr_45_1, gi_xw, pi_xw, gi_xn, pi_xn, gi_xt, pi_xt, is_59, gi_mco, pi_mco, gi_mev, pi_mev, gr_59_2, gr_59_3, gi_mgt, pi_mgt, gr_59_5, gr_59_6, gr_59_7, gr_59_8, gi_mtp, pi_mtp, gr_59_10, gr_59_11, gr_59_12, gr_59_13, gr_59_14, gr_59_15, gi_mmy, pi_mmy, gr_59_17, gr_59_18, M_isEvent (IU.out _).2.2.1.1, hv, b32_0, Bool.true_eq_false, if_false, w3, if_true, rd_mhd (show e0 < 10 by omega), wr_mhd (show e0 < 10 by omega), a3', s2, c3', s1]
      · show W1.1 59 0 = 0
        rw [g1, w1.1]; rfl
      · show W1.2.2 74 0 = _
        rw [g2, w1.2.1]; rfl
      · refine IW.cg ?_ ?_ ?_ ?_ ?_ ?_ ?_ ?_ ?_ ?_
        · exact congrFun g1 0
        · exact congrFun g1 1
        · exact congrFun g1 4
        · exact congrFun g1 9
        · exact congrFun g1 45
        · exact congrFun (congrFun g1 59) 1
        · exact congrFun (congrFun g1 59) 4
        · exact congrFun (congrFun g1 59) 9
        · intro q hq
          rw [sI2]
          by_cases h61 : q = 61
          · subst h61
            rw [if_pos rfl]
            funext i
            rw [upd_at]
            by_cases hi : i = e0
            · rw [if_pos hi, hi]
            · rw [if_neg hi]; exact g4 i hi
          · rw [if_neg h61]
            refine g3 q h61 ?_ ?_ ?_ ?_ ?_ <;> (intro e; subst e; simp at hq)
        · intro q _ _
          exact congrFun g2 q
end
