/-! fillGate -/
section
variable {fu : Nat} {S : Ws}
theorem T_fg {X : Nat → List Nat} {g kd vt nw : Nat} (hg : g < 12) (hn : (X g).Nodup) (hl : (X g).length ≤ 4) (hX : ∀ c, c ∈ X g → c < 28 ∧ c ≠ 16 + g) (h7 : ∀ y, y < 32 → (bt (S.2.1 7 g) y = true ↔ y ∈ X g)) (hkd : kd ≤ 4) (hvt : vt ≤ 4) (hK : S.2.1 5 g = n32 kd) (hV : S.2.1 6 g = n32 vt) (hnw : nw ≤ 16) (hW : S.1 9 3 = n32 nw) (hfu : 200 ≤ fu) : ∃ T, (T.1 = S.1 ∧ (∀ q, q ≠ 39 → T.2.1 q = S.2.1 q) ∧ ∀ q, q ≠ 11 + (16 + g) → T.2.2 q = S.2.2 q) ∧ (∀ w, w < nw → ∀ b, b < 64 → lb (T.2.2 (11 + (16 + g)) w) b = gf kd vt ((X g).countP (fun c => lb (S.2.2 (11 + c) w) b)) (X g).length) ∧ f_T_fillGate fu 9 4 (n32 g) (enc S) = some (enc T) := by
  have hp : (Ls (S.2.1 7 g) 28).Perm (X g) := Ls_perm hn (fun c hc => (hX c hc).1) h7
  have hpl := hp.length_eq
  obtain ⟨U, u1, ⟨u2, u3, u4⟩, u5⟩ := T_list4 (fu := fu) (x := S.2.1 7 g) (by omega) 28 fu 0 S (by omega) (by omega) (fun i hi => absurd hi (by simp [Ls]))
  have hU : InL U (Ls (S.2.1 7 g) 28) := ⟨by omega, fun c hc => (hX c (hp.mem_iff.mp hc)).1, u5⟩
  obtain ⟨T, ⟨f1, f2, f3, f4⟩, m, e⟩ := lp0 (F := fun n w T => f_T_fillGate_33 fu n 9 4 (n32 g) (n32 (Ls (S.2.1 7 g) 28).length) (n32 kd) (11 + (16 + g)) (n32 w) (enc T)) (I := fun w T => T.1 = S.1 ∧ T.2.1 = U.2.1 ∧ (∀ q, q ≠ 11 + (16 + g) → T.2.2 q = S.2.2 q) ∧ ∀ w', w' < w → ∀ b, b < 64 → lb (T.2.2 (11 + (16 + g)) w') b = gf kd vt ((X g).countP (fun c => lb (S.2.2 (11 + c) w') b)) (X g).length) (N := nw) (n := fu) (s := U) (by omega) ⟨u2, rfl, fun q _ => by rw [u3], fun w h => absurd h (by omega)⟩ (fun n w T hw hI => by
    obtain ⟨f1, f2, f3, f4⟩ := hI
    have hT : InL T (Ls (S.2.1 7 g) 28) := ⟨hU.1, hU.2.1, by rw [f2]; exact hU.2.2⟩
    obtain ⟨y, hy, ey⟩ := T_fgw (fu := fu) (S := T) (L := Ls (S.2.1 7 g) 28) (w := w) (g := g) (kd := kd) (vt := vt) hT (by omega) hg hkd hvt (by rw [f2, u4 6 (by omega)]; exact hV) nw hnw hw (by rw [f1]; exact hW) hfu n
    refine ⟨sL T (11 + (16 + g)) w y, ⟨f1, f2, fun q hq => by rw [sL3, if_neg hq]; exact f3 q hq, fun w' hw' b hb => ?_⟩, ey⟩
    rw [sL3, if_pos rfl, updL_at]
    by_cases hww : w' = w
    · subst hww
      rw [if_pos rfl, hy b hb, hp.countP_eq, hpl]
      rw [List.countP_congr (fun c hc => by rw [f3 (11 + c) (by have := (hX c hc).2; omega)])]
    · rw [if_neg hww]; exact f4 w' (Nat.lt_of_le_of_ne (Nat.le_of_lt_succ hw') hww) b hb)
  refine ⟨T, ⟨f1, fun q hq => by rw [f2]; exact u4 q hq, f3⟩, f4, ?_⟩
  have e0 : f_T_listInputs fu 9 (S.2.1 7 g) (enc S) = some (n32 (Ls (S.2.1 7 g) 28).length, enc U) := u1
  have hKU : U.2.1 5 g = n32 kd := by rw [u4 5 (by omega)]; exact hK
  have hWT : T.1 9 3 = n32 nw := by rw [f1]; exact hW
  simp only [f_T_fillGate, Option.bind_some, is_0, gr_0_0, gr_0_1, gr_0_2, gr_0_3, gr_0_4, gr_0_5, gi_tp, pi_tp, gi_tf, pi_tf, gi_xf, pi_xf, is_1, gr_1_0, gr_1_1, gi_en, pi_en, is_4, gr_4_0, gr_4_1, gr_4_2, gr_4_3, gi_gn, pi_gn, is_9, gr_9_0, gr_9_1, gi_ts, pi_ts, gi_tw, pi_tw, gi_tc, pi_tc, is_40, gr_40_0, is_42, gr_42_0, gr_42_1, gi_dn, pi_dn, is_45, gr_45_0, gr_45_1, gi_xw, pi_xw, gi_xn, pi_xn, gi_xt, pi_xt, is_59, gi_mco, pi_mco, gi_mev, pi_mev, gr_59_2, gr_59_3, gi_mgt, pi_mgt, gr_59_5, gr_59_6, gr_59_7, gr_59_8, gi_mtp, pi_mtp, gr_59_10, gr_59_11, gr_59_12, gr_59_13, gr_59_14, gr_59_15, gi_mmy, pi_mmy, gr_59_17, gr_59_18, rd_gc hg, e0, rd_gk hg, hKU, ln_add, ra_rw (show 16 + g < 28 by omega)]
  refine Eq.trans e ?_
  simp only [f_T_fillGate_33, Option.bind_some, is_0, gr_0_0, gr_0_1, gr_0_2, gr_0_3, gr_0_4, gr_0_5, gi_tp, pi_tp, gi_tf, pi_tf, gi_xf, pi_xf, is_1, gr_1_0, gr_1_1, gi_en, pi_en, is_4, gr_4_0, gr_4_1, gr_4_2, gr_4_3, gi_gn, pi_gn, is_9, gr_9_0, gr_9_1, gi_ts, pi_ts, gi_tw, pi_tw, gi_tc, pi_tc, is_40, gr_40_0, is_42, gr_42_0, gr_42_1, gi_dn, pi_dn, is_45, gr_45_0, gr_45_1, gi_xw, pi_xw, gi_xn, pi_xn, gi_xt, pi_xt, is_59, gi_mco, pi_mco, gi_mev, pi_mev, gr_59_2, gr_59_3, gi_mgt, pi_mgt, gr_59_5, gr_59_6, gr_59_7, gr_59_8, gi_mtp, pi_mtp, gr_59_10, gr_59_11, gr_59_12, gr_59_13, gr_59_14, gr_59_15, gi_mmy, pi_mmy, gr_59_17, gr_59_18, hWT, if_pos (show n32 nw ≤ n32 nw from (n32_le (by omega) (by omega)).mpr (Nat.le_refl _))]
end
