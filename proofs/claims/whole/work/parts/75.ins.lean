/-! the desk's insertion of a key -/
section
variable {fu : Nat} {S : Ws}
/-- rising on what lies below c -/
def Inc (g : Nat → Nat) (c : Nat) : Prop := ∀ i j, i < j → j < c → g i < g j
def insF (g : Nat → Nat) (p k : Nat) : Nat → Nat := fun j => if j < p then g j else if j = p then k else g (j - 1)
theorem Inc.ins {g : Nat → Nat} {c p k : Nat} (h : Inc g c) (hp : p ≤ c) (h1 : ∀ j, j < p → g j < k) (h2 : ∀ j, p ≤ j → j < c → k < g j) : Inc (insF g p k) (c + 1) := by
  intro i j hij hj
  unfold insF
  by_cases a : i < p
  · rw [if_pos a]
    by_cases b : j < p
    · rw [if_pos b]; exact h i j hij (by omega)
    · rw [if_neg b]
      by_cases b2 : j = p
      · rw [if_pos b2]; exact h1 i a
      · rw [if_neg b2]; exact h i (j - 1) (by omega) (by omega)
  · rw [if_neg a, if_neg (show ¬ j < p by omega), if_neg (show ¬ j = p by omega)]
    by_cases a2 : i = p
    · rw [if_pos a2]; exact h2 (j - 1) (by omega) (by omega)
    · rw [if_neg a2]; exact h (i - 1) (j - 1) (by omega) (by omega)
theorem ins_mem {g : Nat → Nat} {c p k x : Nat} (hp : p ≤ c) : (∃ j, j < c + 1 ∧ insF g p k j = x) ↔ (x = k ∨ ∃ j, j < c ∧ g j = x) := by
  constructor
  · rintro ⟨j, hj, e⟩
    unfold insF at e
    by_cases a : j < p
    · rw [if_pos a] at e; exact Or.inr ⟨j, by omega, e⟩
    · rw [if_neg a] at e
      by_cases b : j = p
      · rw [if_pos b] at e; exact Or.inl e.symm
      · rw [if_neg b] at e; exact Or.inr ⟨j - 1, by omega, e⟩
  · rintro (e | ⟨j, hj, e⟩)
    · exact ⟨p, by omega, by unfold insF; rw [if_neg (by omega), if_pos rfl, e]⟩
    · by_cases a : j < p
      · exact ⟨j, by omega, by unfold insF; rw [if_pos a]; exact e⟩
      · exact ⟨j + 1, by omega, by unfold insF; rw [if_neg (by omega), if_neg (by omega)]; exact e⟩
/-- what the desk's terms may change -/
def FrX (S T : Ws) : Prop := (∀ q, q ≠ 45 → T.1 q = S.1 q) ∧ T.1 45 2 = S.1 45 2 ∧ (∀ q, q ≠ 46 → T.2.1 q = S.2.1 q)
theorem FrX.rf : FrX S S := ⟨fun _ _ => rfl, rfl, fun _ _ => rfl⟩
theorem FrX.tr {T U : Ws} (h : FrX S T) (g : FrX T U) : FrX S U := ⟨fun q hq => (g.1 q hq).trans (h.1 q hq), g.2.1.trans h.2.1, fun q hq => (g.2.2 q hq).trans (h.2.2 q hq)⟩
/-- found so far: the keys in their order, or that they are too many -/
def TS (Pr : Nat → Prop) (S : Ws) (Fnd : Nat → Prop) : Prop := (S.1 45 4 = 0 ∧ ∃ c g, c ≤ 300 ∧ Inc g c ∧ S.1 45 3 = n32 c ∧ (∀ j, j < c → S.2.1 46 j = n32 (g j)) ∧ ∀ k, Fnd k ↔ ∃ j, j < c ∧ g j = k) ∨ (S.1 45 4 = 1 ∧ S.1 45 3 = n32 300 ∧ ∃ c g, 300 < c ∧ Inc g c ∧ ∀ j, j < c → Pr (g j))
theorem TS.cg {Pr Fnd Fnd' : Nat → Prop} (h : TS Pr S Fnd) (e : ∀ k, Fnd k ↔ Fnd' k) : TS Pr S Fnd' := by
  rcases h with ⟨h1, c, g, a1, a2, a3, a4, a5⟩ | h
  · exact Or.inl ⟨h1, c, g, a1, a2, a3, a4, fun k => (e k).symm.trans (a5 k)⟩
  · exact Or.inr h
theorem TS.fr {Pr Fnd : Nat → Prop} {T : Ws} (h : TS Pr S Fnd) (h1 : T.1 45 = S.1 45) (h2 : T.2.1 46 = S.2.1 46) : TS Pr T Fnd := by
  unfold TS; rw [h1, h2]; exact h
theorem X_ins21 {g : Nat → Nat} {c k : Nat} (hc : c < 300) (hg : ∀ j, j < c → g j < 2147483648) (hk : k < 2147483648) (hn : ∀ j, j < c → g j ≠ k) (hi : Inc g c) : ∀ (pl n : Nat) (T : Ws), pl ≤ c → pl < n → T.1 45 3 = n32 c → (∀ j, j < pl → T.2.1 46 j = n32 (g j)) → (∀ j, pl ≤ j → j < c → T.2.1 46 (j + 1) = n32 (g j) ∧ k < g j) → ∃ p T', p ≤ c ∧ (∀ j, j < p → g j < k) ∧ (∀ j, p ≤ j → j < c → k < g j) ∧ (∀ j, j < c + 1 → T'.2.1 46 j = n32 (insF g p k j)) ∧ T'.1 45 3 = n32 (c + 1) ∧ T'.1 45 4 = T.1 45 4 ∧ FrX T T' ∧ T'.2.2 = T.2.2 ∧ f_X_insert_21 fu n 45 (n32 k) (n32 pl) (enc T) = some (enc T')
  | _, 0, _, _, h, _, _, _ => absurd h (by omega)
  | pl, n + 1, T, hpl, hn1, h3, ha, hb => by
    have stop : (pl = 0 ∨ g (pl - 1) < k) → ∃ p T', p ≤ c ∧ (∀ j, j < p → g j < k) ∧ (∀ j, p ≤ j → j < c → k < g j) ∧ (∀ j, j < c + 1 → T'.2.1 46 j = n32 (insF g p k j)) ∧ T'.1 45 3 = n32 (c + 1) ∧ T'.1 45 4 = T.1 45 4 ∧ FrX T T' ∧ T'.2.2 = T.2.2 ∧ f_X_insert_57 fu 45 (n32 k) (n32 pl) (enc T) = some (enc T') := fun hs => by
      refine ⟨pl, sS (sI T 46 pl (n32 k)) 45 3 (n32 (c + 1)), hpl, fun j hj => ?_, fun j h1 h2 => (hb j h1 h2).2, fun j hj => ?_, rfl, rfl, ⟨fun q hq => by rw [sS1, if_neg hq]; rfl, rfl, fun q hq => by rw [sS2, sI2, if_neg hq]⟩, rfl, ?_⟩
      · rcases hs with hs | hs
        · omega
        · by_cases hj2 : j = pl - 1
          · rw [hj2]; exact hs
          · exact Nat.lt_trans (hi j (pl - 1) (by omega) (by omega)) hs
      · rw [sS2, sI2, if_pos rfl, upd_at]
        unfold insF
        by_cases h1 : j < pl
        · rw [if_neg (show ¬ j = pl by omega), if_pos h1]; exact ha j h1
        · rw [if_neg h1]
          by_cases h2 : j = pl
          · rw [if_pos h2, if_pos h2]
          · rw [if_neg h2, if_neg h2]
            have := (hb (j - 1) (by omega) (by omega)).1
            rw [show j - 1 + 1 = j from by omega] at this
            exact this
      · have h3' : (sI T 46 pl (n32 k)).1 45 3 = n32 c := h3
        simp only [f_X_insert_57, Option.bind_some, is_0, gr_0_0, gr_0_1, gr_0_2, gr_0_3, gr_0_4, gr_0_5, gi_tp, pi_tp, gi_tf, pi_tf, gi_xf, pi_xf, is_1, gr_1_0, gr_1_1, gi_en, pi_en, is_4, gr_4_0, gr_4_1, gr_4_2, gr_4_3, gi_gn, pi_gn, is_9, gr_9_0, gr_9_1, gi_ts, pi_ts, gi_tw, pi_tw, gi_tc, pi_tc, is_40, gr_40_0, is_42, gr_42_0, gr_42_1, gi_dn, pi_dn, is_45, gr_45_0, gr_45_1, gi_xw, pi_xw, gi_xn, pi_xn, gi_xt, pi_xt, is_59, gi_mco, pi_mco, gi_mev, pi_mev, gr_59_2, gr_59_3, gi_mgt, pi_mgt, gr_59_5, gr_59_6, gr_59_7, gr_59_8, gi_mtp, pi_mtp, gr_59_10, gr_59_11, gr_59_12, gr_59_13, gr_59_14, gr_59_15, gi_mmy, pi_mmy, gr_59_17, gr_59_18, wr_ky (show pl < 300 by omega), h3', nl_add]
    by_cases h0 : pl = 0
    · obtain ⟨p, T', a1, a2, a3, a4, a5, a6, a7, a8, a9⟩ := stop (Or.inl h0)
      refine ⟨p, T', a1, a2, a3, a4, a5, a6, a7, a8, ?_⟩
      simp only [f_X_insert_21, if_pos ((n32_lez (show pl < 2147483648 by omega)).mpr h0)]
      exact a9
    · have hle0 : ¬ n32 pl ≤ 0 := fun q => h0 ((n32_lez (show pl < 2147483648 by omega)).mp q)
      have hr : T.2.1 46 (pl - 1) = n32 (g (pl - 1)) := ha (pl - 1) (by omega)
      have hgb := hg (pl - 1) (by omega)
      by_cases hlt : g (pl - 1) < k
      · obtain ⟨p, T', a1, a2, a3, a4, a5, a6, a7, a8, a9⟩ := stop (Or.inr hlt)
        refine ⟨p, T', a1, a2, a3, a4, a5, a6, a7, a8, ?_⟩
        simp only [f_X_insert_21, Option.bind_some, is_0, gr_0_0, gr_0_1, gr_0_2, gr_0_3, gr_0_4, gr_0_5, gi_tp, pi_tp, gi_tf, pi_tf, gi_xf, pi_xf, is_1, gr_1_0, gr_1_1, gi_en, pi_en, is_4, gr_4_0, gr_4_1, gr_4_2, gr_4_3, gi_gn, pi_gn, is_9, gr_9_0, gr_9_1, gi_ts, pi_ts, gi_tw, pi_tw, gi_tc, pi_tc, is_40, gr_40_0, is_42, gr_42_0, gr_42_1, gi_dn, pi_dn, is_45, gr_45_0, gr_45_1, gi_xw, pi_xw, gi_xn, pi_xn, gi_xt, pi_xt, is_59, gi_mco, pi_mco, gi_mev, pi_mev, gr_59_2, gr_59_3, gi_mgt, pi_mgt, gr_59_5, gr_59_6, gr_59_7, gr_59_8, gi_mtp, pi_mtp, gr_59_10, gr_59_11, gr_59_12, gr_59_13, gr_59_14, gr_59_15, gi_mmy, pi_mmy, gr_59_17, gr_59_18, if_neg hle0, nl_sub (show 1 ≤ pl by omega), rd_ky (show pl - 1 < 300 by omega), hr, if_pos ((n32_le hgb hk).mpr (Nat.le_of_lt hlt))]
        exact a9
      · have hne := hn (pl - 1) (by omega)
        have hgt : ¬ n32 (g (pl - 1)) ≤ n32 k := fun q => by have := (n32_le hgb hk).mp q; omega
        obtain ⟨p, T', a1, a2, a3, a4, a5, a6, a7, a8, a9⟩ := X_ins21 hc hg hk hn hi (pl - 1) n (sI T 46 pl (n32 (g (pl - 1)))) (by omega) (by omega) h3 (fun j hj => by
          rw [sI2, if_pos rfl, upd_at, if_neg (show ¬ j = pl by omega)]; exact ha j (by omega)) (fun j h1 h2 => by
          rw [sI2, if_pos rfl, upd_at]
          by_cases hj : j = pl - 1
          · rw [if_pos (show j + 1 = pl by omega), hj]; exact ⟨rfl, by omega⟩
          · rw [if_neg (show ¬ j + 1 = pl by omega)]; exact hb j (by omega) h2)
        refine ⟨p, T', a1, a2, a3, a4, a5, a6, ⟨a7.1, a7.2.1, fun q hq => by rw [a7.2.2 q hq, sI2, if_neg hq]⟩, a8, ?_⟩
        have hm1 : n32 pl + (-1 : Int32) = n32 (pl - 1) := by
          rw [← n32_sub (show 1 ≤ pl by omega), Int32.sub_eq_add_neg]; rfl
        simp only [f_X_insert_21, Option.bind_some, is_0, gr_0_0, gr_0_1, gr_0_2, gr_0_3, gr_0_4, gr_0_5, gi_tp, pi_tp, gi_tf, pi_tf, gi_xf, pi_xf, is_1, gr_1_0, gr_1_1, gi_en, pi_en, is_4, gr_4_0, gr_4_1, gr_4_2, gr_4_3, gi_gn, pi_gn, is_9, gr_9_0, gr_9_1, gi_ts, pi_ts, gi_tw, pi_tw, gi_tc, pi_tc, is_40, gr_40_0, is_42, gr_42_0, gr_42_1, gi_dn, pi_dn, is_45, gr_45_0, gr_45_1, gi_xw, pi_xw, gi_xn, pi_xn, gi_xt, pi_xt, is_59, gi_mco, pi_mco, gi_mev, pi_mev, gr_59_2, gr_59_3, gi_mgt, pi_mgt, gr_59_5, gr_59_6, gr_59_7, gr_59_8, gi_mtp, pi_mtp, gr_59_10, gr_59_11, gr_59_12, gr_59_13, gr_59_14, gr_59_15, gi_mmy, pi_mmy, gr_59_17, gr_59_18, if_neg hle0, nl_sub (show 1 ≤ pl by omega), rd_ky (show pl - 1 < 300 by omega), hr, if_neg hgt, wr_ky (show pl < 300 by omega), hm1]
        exact a9
theorem X_insert {Pr Fnd : Nat → Prop} {k : Nat} (h : TS Pr S Fnd) (hp : ∀ k, Fnd k → Pr k) (hpk : Pr k) (hk : ∀ k, Pr k → k < 2147483648) (hnew : ¬ Fnd k) (hfu : 2000 ≤ fu) : ∃ T, TS Pr T (fun x => Fnd x ∨ x = k) ∧ FrX S T ∧ T.2.2 = S.2.2 ∧ f_X_insert fu 45 (n32 k) (enc S) = some (enc T) := by
  rcases h with ⟨h4, c, g, a1, a2, a3, a4, a5⟩ | ⟨h4, h3, h⟩
  · have hgk : ∀ j, j < c → g j ≠ k := fun j hj e => hnew ((a5 k).mpr ⟨j, hj, e⟩)
    have hgP : ∀ j, j < c → Pr (g j) := fun j hj => hp _ ((a5 (g j)).mpr ⟨j, hj, rfl⟩)
    by_cases h300 : c < 300
    · obtain ⟨p, T, t1, t2, t3, t4, t5, t6, t7, t8, t9⟩ := X_ins21 (fu := fu) h300 (fun j hj => hk _ (hgP j hj)) (hk _ hpk) hgk a2 c fu S (Nat.le_refl _) (by omega) a3 a4 (fun j h1 h2 => absurd h1 (by omega))
      refine ⟨T, Or.inl ⟨t6.trans h4, c + 1, insF g p k, by omega, a2.ins t1 t2 t3, t5, t4, fun x => ?_⟩, t7, t8, ?_⟩
      · show (Fnd x ∨ x = k) ↔ _
        rw [ins_mem t1, a5 x]
        exact ⟨fun q => q.elim Or.inr Or.inl, fun q => q.elim Or.inr Or.inl⟩
      · simp only [f_X_insert, Option.bind_some, is_0, gr_0_0, gr_0_1, gr_0_2, gr_0_3, gr_0_4, gr_0_5, gi_tp, pi_tp, gi_tf, pi_tf, gi_xf, pi_xf, is_1, gr_1_0, gr_1_1, gi_en, pi_en, is_4, gr_4_0, gr_4_1, gr_4_2, gr_4_3, gi_gn, pi_gn, is_9, gr_9_0, gr_9_1, gi_ts, pi_ts, gi_tw, pi_tw, gi_tc, pi_tc, is_40, gr_40_0, is_42, gr_42_0, gr_42_1, gi_dn, pi_dn, is_45, gr_45_0, gr_45_1, gi_xw, pi_xw, gi_xn, pi_xn, gi_xt, pi_xt, is_59, gi_mco, pi_mco, gi_mev, pi_mev, gr_59_2, gr_59_3, gi_mgt, pi_mgt, gr_59_5, gr_59_6, gr_59_7, gr_59_8, gi_mtp, pi_mtp, gr_59_10, gr_59_11, gr_59_12, gr_59_13, gr_59_14, gr_59_15, gi_mmy, pi_mmy, gr_59_17, gr_59_18, a3, if_pos ((nl_lt (show c < 2147483648 by omega) (show 300 < 2147483648 by omega)).mpr h300)]
        exact t9
    · obtain rfl : c = 300 := by omega
      refine ⟨sS S 45 4 1, Or.inr ⟨rfl, a3, ?_⟩, ⟨fun q hq => by rw [sS1, if_neg hq], rfl, fun _ _ => rfl⟩, rfl, ?_⟩
      · have hsplit : ∀ m, m ≤ 300 → (∀ j, j < m → g j < k) → ∃ p, p ≤ 300 ∧ (∀ j, j < p → g j < k) ∧ (∀ j, p ≤ j → j < 300 → k < g j) := by
          intro m
          induction hm : 300 - m generalizing m with
          | zero => intro h1 h2; exact ⟨m, h1, h2, fun j q1 q2 => absurd q1 (by omega)⟩
          | succ d ih =>
            intro h1 h2
            by_cases hlt : g m < k
            · exact ih (m + 1) (by omega) (by omega) (fun j hj => by
                by_cases hjm : j = m
                · rw [hjm]; exact hlt
                · exact h2 j (by omega))
            · refine ⟨m, h1, h2, fun j q1 q2 => ?_⟩
              have hne := hgk m (by omega)
              by_cases hjm : j = m
              · rw [hjm]; omega
              · have := a2 m j (by omega) q2; omega
        obtain ⟨p, p1, p2, p3⟩ := hsplit 0 (by omega) (fun j hj => absurd hj (by omega))
        refine ⟨301, insF g p k, by omega, a2.ins p1 p2 p3, fun j hj => ?_⟩
        rcases (ins_mem (x := insF g p k j) p1).mp ⟨j, hj, rfl⟩ with e | ⟨j', hj', e⟩
        · rw [e]; exact hpk
        · rw [← e]; exact hgP j' hj'
      · simp only [f_X_insert, Option.bind_some, is_0, gr_0_0, gr_0_1, gr_0_2, gr_0_3, gr_0_4, gr_0_5, gi_tp, pi_tp, gi_tf, pi_tf, gi_xf, pi_xf, is_1, gr_1_0, gr_1_1, gi_en, pi_en, is_4, gr_4_0, gr_4_1, gr_4_2, gr_4_3, gi_gn, pi_gn, is_9, gr_9_0, gr_9_1, gi_ts, pi_ts, gi_tw, pi_tw, gi_tc, pi_tc, is_40, gr_40_0, is_42, gr_42_0, gr_42_1, gi_dn, pi_dn, is_45, gr_45_0, gr_45_1, gi_xw, pi_xw, gi_xn, pi_xn, gi_xt, pi_xt, is_59, gi_mco, pi_mco, gi_mev, pi_mev, gr_59_2, gr_59_3, gi_mgt, pi_mgt, gr_59_5, gr_59_6, gr_59_7, gr_59_8, gi_mtp, pi_mtp, gr_59_10, gr_59_11, gr_59_12, gr_59_13, gr_59_14, gr_59_15, gi_mmy, pi_mmy, gr_59_17, gr_59_18, a3, if_neg (show ¬ n32 300 < (300 : Int32) by decide), pz_xt (Or.inr rfl)]
  · refine ⟨sS S 45 4 1, Or.inr ⟨rfl, h3, h⟩, ⟨fun q hq => by rw [sS1, if_neg hq], rfl, fun _ _ => rfl⟩, rfl, ?_⟩
    simp only [f_X_insert, Option.bind_some, is_0, gr_0_0, gr_0_1, gr_0_2, gr_0_3, gr_0_4, gr_0_5, gi_tp, pi_tp, gi_tf, pi_tf, gi_xf, pi_xf, is_1, gr_1_0, gr_1_1, gi_en, pi_en, is_4, gr_4_0, gr_4_1, gr_4_2, gr_4_3, gi_gn, pi_gn, is_9, gr_9_0, gr_9_1, gi_ts, pi_ts, gi_tw, pi_tw, gi_tc, pi_tc, is_40, gr_40_0, is_42, gr_42_0, gr_42_1, gi_dn, pi_dn, is_45, gr_45_0, gr_45_1, gi_xw, pi_xw, gi_xn, pi_xn, gi_xt, pi_xt, is_59, gi_mco, pi_mco, gi_mev, pi_mev, gr_59_2, gr_59_3, gi_mgt, pi_mgt, gr_59_5, gr_59_6, gr_59_7, gr_59_8, gi_mtp, pi_mtp, gr_59_10, gr_59_11, gr_59_12, gr_59_13, gr_59_14, gr_59_15, gi_mmy, pi_mmy, gr_59_17, gr_59_18, h3, if_neg (show ¬ n32 300 < (300 : Int32) by decide), pz_xt (Or.inr rfl)]
end
