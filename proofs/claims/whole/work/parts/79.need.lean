/-! the desk's terms are found -/
section
variable {fu : Nat} {S : Ws} {f : Nat → Bool} {n : Nat} {A : Ab} {r : Nat → Nat}
theorem Inc.pw {g : Nat → Nat} {c : Nat} (h : Inc g c) : ((List.range c).map g).Pairwise (fun a b => a < b) := by
  rw [List.pairwise_iff_getElem]
  intro i j hi hj hij
  have hj' : j < c := by rw [List.length_map, List.length_range] at hj; exact hj
  rw [List.getElem_map, List.getElem_map, List.getElem_range, List.getElem_range]
  exact h i j hij hj'
theorem Inc.nd {g : Nat → Nat} {c : Nat} (h : Inc g c) : ((List.range c).map g).Nodup := h.pw.imp (fun h => Nat.ne_of_lt h)
theorem mem_mr {g : Nat → Nat} {c k : Nat} : k ∈ (List.range c).map g ↔ ∃ j, j < c ∧ g j = k := by
  rw [List.mem_map]
  exact ⟨fun ⟨j, h1, h2⟩ => ⟨j, List.mem_range.mp h1, h2⟩, fun ⟨j, h1, h2⟩ => ⟨j, List.mem_range.mpr h1, h2⟩⟩
theorem PrL.len {L : List Nat} (h : PrL f n L) {g : Nat → Nat} {c : Nat} (hi : Inc g c) (hg : ∀ j, j < c → PrK f n (g j)) : c ≤ L.length := by
  have := List.Nodup.length_le_of_subset (l₁ := (List.range c).map g) (l₂ := L) hi.nd (fun x hx => by
    obtain ⟨j, h1, h2⟩ := mem_mr.mp hx
    exact (h.2 x).mpr (h2 ▸ hg j h1))
  rw [List.length_map, List.length_range] at this; exact this
theorem PrL.uq {L L' : List Nat} (h : PrL f n L) (h' : PrL f n L') : L = L' :=
  List.Perm.eq_of_pairwise (le := fun a b => a < b) (fun a b _ _ h1 h2 => absurd h1 (by omega)) h.1 h'.1 ((List.perm_ext_iff_of_nodup (h.1.imp (fun h => Nat.ne_of_lt h)) (h'.1.imp (fun h => Nat.ne_of_lt h))).mpr (fun k => (h.2 k).trans (h'.2 k).symm))
theorem PrL_ex (hn : n ≤ 10) : ∃ L, PrL f n L := by
  classical
  refine ⟨(List.range 2147483648).filter (fun k => decide (PrK f n k)), List.Pairwise.filter _ List.pairwise_lt_range, fun k => ?_⟩
  rw [List.mem_filter, List.mem_range, decide_eq_true_eq]
  exact ⟨fun h => h.2, fun h => ⟨PrK.lt hn h, h⟩⟩
theorem PrL_mk {g : Nat → Nat} {c : Nat} (hi : Inc g c) (h : ∀ k, PrK f n k ↔ ∃ j, j < c ∧ g j = k) : PrL f n ((List.range c).map g) := ⟨hi.pw, fun k => mem_mr.trans (h k).symm⟩
theorem TS.tm {t : Nat} (hE : aE A ≤ 10) (ht : aT A = some t) (h : TS (PrK (fun s => evR A r s t) (aE A)) S (PrK (fun s => evR A r s t) (aE A))) : TmOK S A r := by
  rcases h with ⟨h4, c, g, a1, a2, a3, a4, a5⟩ | ⟨h4, -, c, g, a1, a2, a3⟩
  · refine ⟨t, ht, (List.range c).map g, PrL_mk a2 a5, fun _ => ⟨?_, h4, fun j hj => ?_⟩, fun h => ?_⟩
    · rw [List.length_map, List.length_range]; exact a3
    · rw [List.length_map, List.length_range] at hj
      rw [List.getElem_map, List.getElem_range]; exact a4 j hj
    · rw [List.length_map, List.length_range] at h; omega
  · obtain ⟨L, hL⟩ := PrL_ex (f := fun s => evR A r s t) hE
    have := hL.len a2 a3
    exact ⟨t, ht, L, hL, fun h => absurd h (by omega), fun _ => h4⟩
theorem F_terms (I : Inv S A r) {t : Nat} (ht : aT A = some t) (hfu : 2000 ≤ fu) : ∃ T, Inv T A r ∧ T.2.2 74 = S.2.2 74 ∧ TmOK T A r ∧ f_F_needTerms fu 0 (enc S) = some (if T.1 45 4 = 0 then Sum.inr () else Sum.inl "java/lang/UnsupportedOperationException", enc T) := by
  obtain ⟨O, D, M, T1, T2⟩ := id I
  have last : ∀ T : Ws, f_F_needTerms_34 fu 0 (enc T) = some (if T.1 45 4 = 0 then Sum.inr () else Sum.inl "java/lang/UnsupportedOperationException", enc T) := fun T => by
    simp only [f_F_needTerms_34, Option.bind_some, is_0, gr_0_0, gr_0_1, gr_0_2, gr_0_3, gr_0_4, gr_0_5, gi_tp, pi_tp, gi_tf, pi_tf, gi_xf, pi_xf, is_1, gr_1_0, gr_1_1, gi_en, pi_en, is_4, gr_4_0, gr_4_1, gr_4_2, gr_4_3, gi_gn, pi_gn, is_9, gr_9_0, gr_9_1, gi_ts, pi_ts, gi_tw, pi_tw, gi_tc, pi_tc, is_40, gr_40_0, is_42, gr_42_0, gr_42_1, gi_dn, pi_dn, is_45, gr_45_0, gr_45_1, gi_xw, pi_xw, gi_xn, pi_xn, gi_xt, pi_xt, is_59, gi_mco, pi_mco, gi_mev, pi_mev, gr_59_2, gr_59_3, gi_mgt, pi_mgt, gr_59_5, gr_59_6, gr_59_7, gr_59_8, gi_mtp, pi_mtp, gr_59_10, gr_59_11, gr_59_12, gr_59_13, gr_59_14, gr_59_15, gi_mmy, pi_mmy, gr_59_17, gr_59_18]
    by_cases h : T.1 45 4 = 0
    · rw [if_pos h, if_pos h]
    · rw [if_neg h, if_neg h]
  rcases D.2.2.2.2.2.2.2 with h8 | h8
  · have htg := O.2.2.2.2.2.2.2 t ht
    have hG := O.2.1
    have hE := O.1
    obtain ⟨U, F, IU, B, eU⟩ := F_fresh (fu := fu) I ht (by omega)
    obtain ⟨V, v1, ⟨v2, v3, v4⟩, v5⟩ := X_find (fu := fu) (S := U) hE (show t < 12 by omega) B (fun s => ev_mod O s t) hfu
    have hTm : TmOK (sS V 0 8 1) A r := TS.tm hE ht (v1.fr rfl rfl)
    obtain ⟨O', D', M', T1', T2'⟩ := id IU
    refine ⟨sS V 0 8 1, ⟨O, ?_, ?_, ?_, fun _ => hTm⟩, ?_, hTm, ?_⟩
    · obtain ⟨d1, d2, d3, d4, d5, d6, d7, d8⟩ := D'
      refine ⟨?_, ?_, ?_, ?_, ?_, ?_, ?_, Or.inr rfl⟩
      · rw [sS1, if_neg (by decide), v2 1 (by omega)]; exact d1
      · rw [sS2, v3 2 (by omega), v3 3 (by omega)]; exact d2
      · rw [sS1, if_neg (by decide), v2 4 (by omega)]; exact d3
      · rw [sS2, v3 5 (by omega), v3 6 (by omega)]; exact d4
      · rw [sS2, v3 7 (by omega), v3 8 (by omega)]; exact d5
      · rw [sS1, if_pos rfl, upd_at, if_neg (by decide), v2 0 (by omega)]; exact d6
      · rw [sS1, if_pos rfl, upd_at, if_neg (by decide), v2 0 (by omega)]; exact d7
    · unfold RM at M' ⊢
      rw [sS1, if_neg (by decide), sS2, v2 59 (by omega), v3 60 (by omega), v3 61 (by omega), v3 62 (by omega), v3 63 (by omega), v3 64 (by omega), v3 65 (by omega)]; exact M'
    · intro h7
      rw [sS1, if_pos rfl, upd_at, if_neg (by decide), v2 0 (by omega)] at h7
      obtain ⟨t', a1, a2, a3, a4, a5⟩ := T1' h7
      have ht' := inv_tp IU t' a1
      refine ⟨t', a1, ?_, ?_, ?_, fun s hs => ?_⟩
      · rw [sS1, if_neg (by decide), v2 9 (by omega)]; exact a2
      · rw [sS1, if_neg (by decide), v2 9 (by omega)]; exact a3
      · rw [sS1, if_neg (by decide), v2 9 (by omega)]; exact a4
      · rw [sS2, v4 (11 + (16 + t')) (by omega)]; exact a5 s hs
    · rw [sS2, v4 74 (by omega), F.2.2.2 74 (by omega)]
    · simp only [f_F_needTerms, Option.bind_some, is_0, gr_0_0, gr_0_1, gr_0_2, gr_0_3, gr_0_4, gr_0_5, gi_tp, pi_tp, gi_tf, pi_tf, gi_xf, pi_xf, is_1, gr_1_0, gr_1_1, gi_en, pi_en, is_4, gr_4_0, gr_4_1, gr_4_2, gr_4_3, gi_gn, pi_gn, is_9, gr_9_0, gr_9_1, gi_ts, pi_ts, gi_tw, pi_tw, gi_tc, pi_tc, is_40, gr_40_0, is_42, gr_42_0, gr_42_1, gi_dn, pi_dn, is_45, gr_45_0, gr_45_1, gi_xw, pi_xw, gi_xn, pi_xn, gi_xt, pi_xt, is_59, gi_mco, pi_mco, gi_mev, pi_mev, gr_59_2, gr_59_3, gi_mgt, pi_mgt, gr_59_5, gr_59_6, gr_59_7, gr_59_8, gi_mtp, pi_mtp, gr_59_10, gr_59_11, gr_59_12, gr_59_13, gr_59_14, gr_59_15, gi_mmy, pi_mmy, gr_59_17, gr_59_18, h8, if_true, eU, IU.2.1.1, v5, pz_xf (Or.inr rfl), last]
  · refine ⟨S, I, rfl, T2 h8, ?_⟩
    simp only [f_F_needTerms, Option.bind_some, is_0, gr_0_0, gr_0_1, gr_0_2, gr_0_3, gr_0_4, gr_0_5, gi_tp, pi_tp, gi_tf, pi_tf, gi_xf, pi_xf, is_1, gr_1_0, gr_1_1, gi_en, pi_en, is_4, gr_4_0, gr_4_1, gr_4_2, gr_4_3, gi_gn, pi_gn, is_9, gr_9_0, gr_9_1, gi_ts, pi_ts, gi_tw, pi_tw, gi_tc, pi_tc, is_40, gr_40_0, is_42, gr_42_0, gr_42_1, gi_dn, pi_dn, is_45, gr_45_0, gr_45_1, gi_xw, pi_xw, gi_xn, pi_xn, gi_xt, pi_xt, is_59, gi_mco, pi_mco, gi_mev, pi_mev, gr_59_2, gr_59_3, gi_mgt, pi_mgt, gr_59_5, gr_59_6, gr_59_7, gr_59_8, gi_mtp, pi_mtp, gr_59_10, gr_59_11, gr_59_12, gr_59_13, gr_59_14, gr_59_15, gi_mmy, pi_mmy, gr_59_17, gr_59_18, h8, if_neg (show ¬ (1 : Int32) = 0 by decide), last]
end
