/-! the desk's walk over the kept events -/
section
variable {fu : Nat} {S : Ws} {f : Nat → Bool} {n : Nat}
theorem lb_z {x : Int64} : x = 0 ↔ ∀ k, k < 64 → lb x k = false := by
  constructor
  · intro h k _; rw [h, lb_0]
  · intro h; exact lb_ext (fun k hk => by rw [h k hk, lb_0])
theorem lor0 {x y : Int64} : x ||| y = 0 ↔ (x = 0 ∧ y = 0) := by
  rw [lb_z, lb_z, lb_z]
  constructor
  · intro h
    refine ⟨fun k hk => ?_, fun k hk => ?_⟩
    · have := h k hk; rw [lb_or, Bool.or_eq_false_iff] at this; exact this.1
    · have := h k hk; rw [lb_or, Bool.or_eq_false_iff] at this; exact this.2
  · rintro ⟨h1, h2⟩ k hk; rw [lb_or, h1 k hk, h2 k hk]; rfl
theorem cp_lv {i j m : Nat} (hi : i < 11) (hj : j < 11) (hm : m ≤ 16) : hp_cp (enc S) (48 + i) (0 : Int32) (48 + j) (0 : Int32) (n32 m) = some (enc (sR S (48 + j) (fun k => if k < m then S.2.2 (48 + i) k else S.2.2 (48 + j) k))) := by
  unfold hp_cp
  rw [at_lv S i hi, at_lv S j hj]
  show (if 1 = 1 ∧ 1 = 1 ∧ ¬ (0 : Int32) < 0 ∧ ¬ (0 : Int32) < 0 ∧ ¬ n32 m < 0 ∧ (0 : Int32).toNatClampNeg + (n32 m).toNatClampNeg ≤ 16 ∧ (0 : Int32).toNatClampNeg + (n32 m).toNatClampNeg ≤ 16 then some ((enc S).set (48 + j) (.inl (1, 16, .inr (.inl (va_cpy (S.2.2 (48 + i)) (S.2.2 (48 + j)) (0 : Int32).toNatClampNeg (0 : Int32).toNatClampNeg (n32 m).toNatClampNeg))))) else none) = _
  rw [n32_c (by omega), show (0 : Int32).toNatClampNeg = 0 from by decide, if_pos ⟨rfl, rfl, by decide, by decide, n32_nn (by omega), by omega, by omega⟩, st_lv _ S j hj]
  congr 2
  unfold va_cpy sR
  have : (fun k => if 0 ≤ k ∧ k < 0 + m then S.2.2 (48 + i) (0 + (k - 0)) else S.2.2 (48 + j) k) = (fun k => if k < m then S.2.2 (48 + i) k else S.2.2 (48 + j) k) := funext (fun k => by
    by_cases hk : k < m
    · rw [if_pos hk, if_pos ⟨Nat.zero_le _, by omega⟩, Nat.zero_add, Nat.sub_zero]
    · rw [if_neg hk, if_neg (by omega)])
  rw [this]
theorem X_35 {d : Nat} {kv : Int32} (hn : n ≤ 10) (hd : d < n) (hW : S.1 45 2 = n32 (wo n)) (hfu : 2000 ≤ fu) (sw : Nat → Int32 → Int32 → List va_E → Option (List va_E)) : ∃ any lost T, (T.1 = S.1 ∧ T.2.1 = S.2.1 ∧ ∀ q, q ≠ 48 + d → T.2.2 q = S.2.2 q) ∧ (∀ s, s < 64 * wo n → rb T d s = (rb S (d + 1) s && rb S (d + 1) (s ^^^ 2 ^ d))) ∧ (any = 0 ↔ ∀ s, s < 64 * wo n → (rb S (d + 1) s && rb S (d + 1) (s ^^^ 2 ^ d)) = false) ∧ (lost = 0 ↔ ∀ s, s < 64 * wo n → rb S (d + 1) s = true → (rb S (d + 1) s && rb S (d + 1) (s ^^^ 2 ^ d)) = true) ∧ f_X_walk_35 fu sw fu 45 (n32 (d + 1)) kv (n32 d) 0 0 0 (enc S) = (if lg_cmp any 0 = 0 then f_X_walk_123 fu sw 45 (n32 (d + 1)) kv (n32 d) lost (enc T) else ((sw 45 (n32 d) kv (enc T)).bind fun r2 => f_X_walk_123 fu sw 45 (n32 (d + 1)) kv (n32 d) lost r2)) := by
  have hw16 := (wo_le hn).1
  obtain ⟨⟨any, lost, T⟩, ⟨t1, t2, t3, t4⟩, m, e1⟩ := lp0 (σ := Int64 × Int64 × Ws) (F := fun m w p => f_X_walk_35 fu sw m 45 (n32 (d + 1)) kv (n32 d) p.1 p.2.1 (n32 w) (enc p.2.2)) (I := fun w p => (p.2.2.1 = S.1 ∧ p.2.2.2.1 = S.2.1 ∧ ∀ q, q ≠ 48 + d → p.2.2.2.2 q = S.2.2 q) ∧ (∀ s, s < 64 * w → rb p.2.2 d s = (rb S (d + 1) s && rb S (d + 1) (s ^^^ 2 ^ d))) ∧ (p.1 = 0 ↔ ∀ s, s < 64 * w → (rb S (d + 1) s && rb S (d + 1) (s ^^^ 2 ^ d)) = false) ∧ (p.2.1 = 0 ↔ ∀ s, s < 64 * w → rb S (d + 1) s = true → (rb S (d + 1) s && rb S (d + 1) (s ^^^ 2 ^ d)) = true)) (N := wo n) (n := fu) (s := ((0 : Int64), (0 : Int64), S)) (by omega) ⟨⟨rfl, rfl, fun _ _ => rfl⟩, fun s h => absurd h (by omega), ⟨fun _ s h => absurd h (by omega), fun _ => rfl⟩, ⟨fun _ s h => absurd h (by omega), fun _ => rfl⟩⟩ (fun m w p hw hI => by
    obtain ⟨any, lost, T⟩ := p
    obtain ⟨⟨f1, f2, f3⟩, h2, h3, h4⟩ := hI
    dsimp only at f1 f2 f3 h2 h3 h4
    have hle : ¬ n32 (wo n) ≤ n32 w := by rw [n32_le (by omega) (by omega)]; omega
    have hWT : T.1 45 2 = n32 (wo n) := by rw [f1]; exact hW
    obtain ⟨z, z1, z2⟩ := X_flip (fu := fu) (S := T) (d := d + 1) (e := d) (w := w) (by omega) (by omega) (by omega)
    have hrT : ∀ s, rb T (d + 1) s = rb S (d + 1) s := fun s => by unfold rb; rw [f3 (48 + (d + 1)) (by omega)]
    have hy : ∀ b, b < 64 → lb (T.2.2 (48 + (d + 1)) w) b = rb S (d + 1) (64 * w + b) := fun b hb => by
      rw [← hrT]; unfold rb
      rw [show (64 * w + b) / 64 = w from by omega, show (64 * w + b) % 64 = b from by omega]
    have hyz : ∀ b, b < 64 → lb (T.2.2 (48 + (d + 1)) w &&& z) b = (rb S (d + 1) (64 * w + b) && rb S (d + 1) ((64 * w + b) ^^^ 2 ^ d)) := fun b hb => by
      rw [lb_and, hy b hb, z2 b hb, hrT]
    refine ⟨(any ||| (T.2.2 (48 + (d + 1)) w &&& z), lost ||| (T.2.2 (48 + (d + 1)) w ^^^ (T.2.2 (48 + (d + 1)) w &&& z)), sL T (48 + d) w (T.2.2 (48 + (d + 1)) w &&& z)), ⟨⟨f1, f2, fun q hq => by rw [sL3, if_neg hq]; exact f3 q hq⟩, fun s hs => ?_, ?_, ?_⟩, ?_⟩
    · dsimp only
      by_cases hsw : s / 64 = w
      · have hss : 64 * w + s % 64 = s := by omega
        have := hyz (s % 64) (by omega)
        rw [hss] at this
        rw [← this]
        unfold rb
        rw [sL3, if_pos rfl, updL_at, if_pos hsw]
      · rw [← h2 s (by omega)]
        unfold rb
        rw [sL3, if_pos rfl, updL_at, if_neg hsw]
    · dsimp only
      rw [lor0, h3, lb_z]
      constructor
      · rintro ⟨g1, g2⟩ s hs
        by_cases hsw : s / 64 = w
        · have hss : 64 * w + s % 64 = s := by omega
          have := g2 (s % 64) (by omega)
          rw [hyz _ (by omega), hss] at this; exact this
        · exact g1 s (by omega)
      · intro g
        exact ⟨fun s hs => g s (by omega), fun b hb => by rw [hyz b hb]; exact g _ (by omega)⟩
    · dsimp only
      rw [lor0, h4, lb_z]
      constructor
      · rintro ⟨g1, g2⟩ s hs hr
        by_cases hsw : s / 64 = w
        · have hss : 64 * w + s % 64 = s := by omega
          have := g2 (s % 64) (by omega)
          rw [lb_xor, hyz _ (by omega), hy _ (by omega), hss, hr] at this
          cases hq : (true && rb S (d + 1) (s ^^^ 2 ^ d)) with
          | true => rw [hr]; exact hq
          | false => rw [hq] at this; cases this
        · exact g1 s (by omega) hr
      · intro g
        refine ⟨fun s hs => g s (by omega), fun b hb => ?_⟩
        rw [lb_xor, hyz b hb, hy b hb]
        cases hr : rb S (d + 1) (64 * w + b) with
        | false => rfl
        | true =>
          have := g (64 * w + b) (by omega) hr
          rw [hr] at this
          rw [this]; rfl
    · have hy14 : (sL T (48 + d) w (T.2.2 (48 + (d + 1)) w &&& z)).2.2 (48 + (d + 1)) w = T.2.2 (48 + (d + 1)) w := by rw [sL3, if_neg (by omega)]
      simp only [f_X_walk_35, Option.bind_some, is_0, gr_0_0, gr_0_1, gr_0_2, gr_0_3, gr_0_4, gr_0_5, gi_tp, pi_tp, gi_tf, pi_tf, gi_xf, pi_xf, is_1, gr_1_0, gr_1_1, gi_en, pi_en, is_4, gr_4_0, gr_4_1, gr_4_2, gr_4_3, gi_gn, pi_gn, is_9, gr_9_0, gr_9_1, gi_ts, pi_ts, gi_tw, pi_tw, gi_tc, pi_tc, is_40, gr_40_0, is_42, gr_42_0, gr_42_1, gi_dn, pi_dn, is_45, gr_45_0, gr_45_1, gi_xw, pi_xw, gi_xn, pi_xn, gi_xt, pi_xt, is_59, gi_mco, pi_mco, gi_mev, pi_mev, gr_59_2, gr_59_3, gi_mgt, pi_mgt, gr_59_5, gr_59_6, gr_59_7, gr_59_8, gi_mtp, pi_mtp, gr_59_10, gr_59_11, gr_59_12, gr_59_13, gr_59_14, gr_59_15, gi_mmy, pi_mmy, gr_59_17, gr_59_18, hWT, if_neg hle, ra_lv (show d + 1 < 11 by omega), ra_lv (show d < 11 by omega), rd_lv (show d + 1 < 11 by omega) (show w < 16 by omega), z1, wr_lv (show d < 11 by omega) (show w < 16 by omega), hy14, nl_add])
  dsimp only at t1 t2 t3 t4
  refine ⟨any, lost, T, t1, t2, t3, t4, Eq.trans e1 ?_⟩
  have hWT : T.1 45 2 = n32 (wo n) := by rw [t1.1]; exact hW
  simp only [f_X_walk_35, Option.bind_some, is_0, gr_0_0, gr_0_1, gr_0_2, gr_0_3, gr_0_4, gr_0_5, gi_tp, pi_tp, gi_tf, pi_tf, gi_xf, pi_xf, is_1, gr_1_0, gr_1_1, gi_en, pi_en, is_4, gr_4_0, gr_4_1, gr_4_2, gr_4_3, gi_gn, pi_gn, is_9, gr_9_0, gr_9_1, gi_ts, pi_ts, gi_tw, pi_tw, gi_tc, pi_tc, is_40, gr_40_0, is_42, gr_42_0, gr_42_1, gi_dn, pi_dn, is_45, gr_45_0, gr_45_1, gi_xw, pi_xw, gi_xn, pi_xn, gi_xt, pi_xt, is_59, gi_mco, pi_mco, gi_mev, pi_mev, gr_59_2, gr_59_3, gi_mgt, pi_mgt, gr_59_5, gr_59_6, gr_59_7, gr_59_8, gi_mtp, pi_mtp, gr_59_10, gr_59_11, gr_59_12, gr_59_13, gr_59_14, gr_59_15, gi_mmy, pi_mmy, gr_59_17, gr_59_18, hWT, if_pos (show n32 (wo n) ≤ n32 (wo n) from (n32_le (by omega) (by omega)).mpr (Nat.le_refl _))]
theorem kept_or (d q : Nat) : n32 (q * 2 ^ (d + 1)) ||| n32 (2 ^ d) = n32 ((2 * q + 1) * 2 ^ d) := by
  rw [n32_or]
  congr 1
  have := Nat.two_pow_add_eq_or_of_lt (i := d + 1) (b := 2 ^ d) (Nat.pow_lt_pow_right (by omega) (by omega)) q
  rw [Nat.mul_comm q, ← this]
  have h3 := pw3 q d 0
  simp only [Nat.add_zero] at h3
  rw [h3, Nat.mul_comm]
theorem X_many {Fnd Fnd' : Nat → Prop} {Pr : Nat → Prop} (h : TS Pr S Fnd) (h4 : S.1 45 4 ≠ 0) : TS Pr S Fnd' := by
  rcases h with h | h
  · exact absurd h.1 h4
  · exact Or.inr h
theorem X_walk (hn : n ≤ 10) (hfu : 2000 ≤ fu) : ∀ (d fl q : Nat) (S : Ws) (Fnd : Nat → Prop), d ≤ n → d < fl → q * 2 ^ d < 2 ^ n → S.1 45 2 = n32 (wo n) → (∀ s, s < 64 * wo n → (rb S d s = true ↔ cau f n (lvK d q) s)) → TS (PrK f n) S Fnd → (∀ k, Fnd k → PrK f n k) → (∀ k, SubK f n d q k → ¬ Fnd k) → ∃ T, TS (PrK f n) T (fun x => Fnd x ∨ SubK f n d q x) ∧ FrX S T ∧ (∀ p, ¬ (48 ≤ p ∧ p < 48 + d) → T.2.2 p = S.2.2 p) ∧ f_X_walk fu fl 45 (n32 d) (n32 (q * 2 ^ d)) (enc S) = some (enc T)
  | _, 0, _, _, _, _, h, _, _, _, _, _, _ => absurd h (by omega)
  | 0, fl + 1, q, S, Fnd, _, _, hq, hW, hR, hT, hFp, hnew => by
    by_cases h4 : S.1 45 4 = 0
    · rw [Nat.pow_zero, Nat.mul_one] at hq ⊢
      have hl0 : lvK 0 q = q := by unfold lvK; simp
      obtain ⟨T, t1, t2, t3, t4⟩ := X_collect (fu := fu) (f := f) hn hq (by rw [hl0] at hR; exact hR) hW hT hFp (fun on hp => hnew _ (SubK_0.mpr ⟨on, hp, rfl⟩)) hfu
      refine ⟨T, t1.cg (fun k => by show (Fnd k ∨ _) ↔ (Fnd k ∨ SubK f n 0 q k); rw [SubK_0]), t2, fun p _ => by rw [t3], ?_⟩
      simp only [f_X_walk, f_X_walk_b, Option.bind_some, is_0, gr_0_0, gr_0_1, gr_0_2, gr_0_3, gr_0_4, gr_0_5, gi_tp, pi_tp, gi_tf, pi_tf, gi_xf, pi_xf, is_1, gr_1_0, gr_1_1, gi_en, pi_en, is_4, gr_4_0, gr_4_1, gr_4_2, gr_4_3, gi_gn, pi_gn, is_9, gr_9_0, gr_9_1, gi_ts, pi_ts, gi_tw, pi_tw, gi_tc, pi_tc, is_40, gr_40_0, is_42, gr_42_0, gr_42_1, gi_dn, pi_dn, is_45, gr_45_0, gr_45_1, gi_xw, pi_xw, gi_xn, pi_xn, gi_xt, pi_xt, is_59, gi_mco, pi_mco, gi_mev, pi_mev, gr_59_2, gr_59_3, gi_mgt, pi_mgt, gr_59_5, gr_59_6, gr_59_7, gr_59_8, gi_mtp, pi_mtp, gr_59_10, gr_59_11, gr_59_12, gr_59_13, gr_59_14, gr_59_15, gi_mmy, pi_mmy, gr_59_17, gr_59_18, h4, if_true, if_pos (show (0 : Int32) ≤ n32 0 by decide), if_pos (show n32 0 = (0 : Int32) from rfl), t4]
    · refine ⟨S, X_many hT h4, FrX.rf, fun _ _ => rfl, ?_⟩
      simp only [f_X_walk, f_X_walk_b, f_X_walk_11, Option.bind_some, is_0, gr_0_0, gr_0_1, gr_0_2, gr_0_3, gr_0_4, gr_0_5, gi_tp, pi_tp, gi_tf, pi_tf, gi_xf, pi_xf, is_1, gr_1_0, gr_1_1, gi_en, pi_en, is_4, gr_4_0, gr_4_1, gr_4_2, gr_4_3, gi_gn, pi_gn, is_9, gr_9_0, gr_9_1, gi_ts, pi_ts, gi_tw, pi_tw, gi_tc, pi_tc, is_40, gr_40_0, is_42, gr_42_0, gr_42_1, gi_dn, pi_dn, is_45, gr_45_0, gr_45_1, gi_xw, pi_xw, gi_xn, pi_xn, gi_xt, pi_xt, is_59, gi_mco, pi_mco, gi_mev, pi_mev, gr_59_2, gr_59_3, gi_mgt, pi_mgt, gr_59_5, gr_59_6, gr_59_7, gr_59_8, gi_mtp, pi_mtp, gr_59_10, gr_59_11, gr_59_12, gr_59_13, gr_59_14, gr_59_15, gi_mmy, pi_mmy, gr_59_17, gr_59_18, if_neg h4]
  | d + 1, fl + 1, q, S, Fnd, hdn, hfl, hq, hW, hR, hT, hFp, hnew => by
    by_cases h4 : S.1 45 4 = 0
    · obtain ⟨any, lost, T, ⟨f1, f2, f3⟩, r1, r2, r3, e1⟩ := X_35 (fu := fu) (S := S) (n := n) (d := d) (kv := n32 (q * 2 ^ (d + 1))) hn (by omega) hW hfu (f_X_walk fu fl)
      have hboth : ∀ s, s < 64 * wo n → ((rb S (d + 1) s && rb S (d + 1) (s ^^^ 2 ^ d)) = true ↔ cau f n (lvK d (2 * q)) s) := fun s hs => by
        rw [Bool.and_eq_true, hR s hs, hR _ (fl_lt hn (by omega) hs), lv_leave]
      have hwos : ∀ s, s < 2 ^ n → s < 64 * wo n := fun s hs => wo_s hs
      have hTT : TS (PrK f n) T Fnd := hT.fr (by rw [f1]) (by rw [f2])
      have hq2 : 2 * q * 2 ^ d = q * 2 ^ (d + 1) := by have := pw2 q d 0; rw [Nat.add_zero, Nat.add_zero] at this; exact this
      have hq3 : (2 * q + 1) * 2 ^ d = q * 2 ^ (d + 1) + 2 ^ d := by have := pw3 q d 0; rw [Nat.add_zero, Nat.add_zero] at this; exact this
      obtain ⟨T1, a1, a2, a3, a4⟩ : ∃ T1, TS (PrK f n) T1 (fun x => Fnd x ∨ SubK f n d (2 * q) x) ∧ FrX T T1 ∧ (∀ p, ¬ (48 ≤ p ∧ p < 48 + d) → T1.2.2 p = T.2.2 p) ∧ f_X_walk_35 fu (f_X_walk fu fl) fu 45 (n32 (d + 1)) (n32 (q * 2 ^ (d + 1))) (n32 d) 0 0 0 (enc S) = f_X_walk_123 fu (f_X_walk fu fl) 45 (n32 (d + 1)) (n32 (q * 2 ^ (d + 1))) (n32 d) lost (enc T1) := by
        by_cases hany : any = 0
        · refine ⟨T, hTT.cg (fun k => ⟨Or.inl, fun h => h.elim id (fun h => absurd h (SubK_any (fun s hs hc => ?_)))⟩), FrX.rf, fun _ _ => rfl, ?_⟩
          · have := r2.mp hany s (hwos s hs)
            rw [(hboth s (hwos s hs)).mpr hc] at this; cases this
          · rw [e1, if_pos (lg_0.mpr hany)]
        · obtain ⟨T1, a1, a2, a3, a4⟩ := X_walk hn hfu d fl (2 * q) T Fnd (by omega) (by omega) (by rw [hq2]; exact hq) (by rw [f1]; exact hW) (fun s hs => by rw [r1 s hs]; exact hboth s hs) hTT hFp (fun k hk => hnew k (SubK_s.mpr (Or.inl hk)))
          refine ⟨T1, a1, a2, a3, ?_⟩
          rw [hq2] at a4
          rw [e1, if_neg (fun h => hany (lg_0.mp h)), a4, Option.bind_some]
      have hFp1 : ∀ k, (Fnd k ∨ SubK f n d (2 * q) k) → PrK f n k := fun k hk => hk.elim (hFp k) (fun ⟨kept, on, h1, h2, _⟩ => ⟨kept, on, h1, h2⟩)
      have hbeg : f_X_walk fu (fl + 1) 45 (n32 (d + 1)) (n32 (q * 2 ^ (d + 1))) (enc S) = f_X_walk_35 fu (f_X_walk fu fl) fu 45 (n32 (d + 1)) (n32 (q * 2 ^ (d + 1))) (n32 d) 0 0 0 (enc S) := by
        simp only [f_X_walk, f_X_walk_b, Option.bind_some, is_0, gr_0_0, gr_0_1, gr_0_2, gr_0_3, gr_0_4, gr_0_5, gi_tp, pi_tp, gi_tf, pi_tf, gi_xf, pi_xf, is_1, gr_1_0, gr_1_1, gi_en, pi_en, is_4, gr_4_0, gr_4_1, gr_4_2, gr_4_3, gi_gn, pi_gn, is_9, gr_9_0, gr_9_1, gi_ts, pi_ts, gi_tw, pi_tw, gi_tc, pi_tc, is_40, gr_40_0, is_42, gr_42_0, gr_42_1, gi_dn, pi_dn, is_45, gr_45_0, gr_45_1, gi_xw, pi_xw, gi_xn, pi_xn, gi_xt, pi_xt, is_59, gi_mco, pi_mco, gi_mev, pi_mev, gr_59_2, gr_59_3, gi_mgt, pi_mgt, gr_59_5, gr_59_6, gr_59_7, gr_59_8, gi_mtp, pi_mtp, gr_59_10, gr_59_11, gr_59_12, gr_59_13, gr_59_14, gr_59_15, gi_mmy, pi_mmy, gr_59_17, gr_59_18, h4, if_true, if_pos (show (0 : Int32) ≤ n32 (d + 1) from (n32_le (a := 0) (by omega) (by omega)).mpr (by omega)), if_neg (show ¬ n32 (d + 1) = 0 from fun h => by have := (n32_z (by omega)).mp h; omega), nl_sub (show 1 ≤ d + 1 by omega), Nat.add_sub_cancel]
      by_cases hlost : lost = 0
      · refine ⟨T1, a1.cg (fun k => ?_), ⟨fun p hp => by rw [a2.1 p hp, f1], by rw [a2.2.1, f1], fun p hp => by rw [a2.2.2 p hp, f2]⟩, fun p hp => by rw [a3 p (by omega), f3 p (by omega)], ?_⟩
        · show _ ↔ (Fnd k ∨ SubK f n (d + 1) q k)
          rw [SubK_s]
          constructor
          · rintro (h | h)
            · exact Or.inl h
            · exact Or.inr (Or.inl h)
          · rintro (h | h | h)
            · exact Or.inl h
            · exact Or.inr h
            · exact absurd h (SubK_lost (by omega) (fun s hs hc => (hboth s (hwos s hs)).mp (r3.mp hlost s (hwos s hs) ((hR s (hwos s hs)).mpr hc))))
        · rw [hbeg, a4]
          simp only [f_X_walk_123, f_X_walk_161, if_pos (lg_0.mpr hlost)]
      · have hw16 := (wo_le hn).1
        have hWT1 : T1.1 45 2 = n32 (wo n) := by rw [a2.2.1, f1]; exact hW
        have hrU : ∀ s, s < 64 * wo n → rb (sR T1 (48 + d) (fun k => if k < wo n then T1.2.2 (48 + (d + 1)) k else T1.2.2 (48 + d) k)) d s = rb S (d + 1) s := fun s hs => by
          unfold rb
          show lb (upR T1.2.2 (48 + d) _ (48 + d) (s / 64)) (s % 64) = _
          unfold upR
          rw [if_pos rfl]
          rw [if_pos (show s / 64 < wo n by omega), a3 (48 + (d + 1)) (by omega), f3 (48 + (d + 1)) (by omega)]
        obtain ⟨T2, b1, b2, b3, b4⟩ := X_walk hn hfu d fl (2 * q + 1) (sR T1 (48 + d) (fun k => if k < wo n then T1.2.2 (48 + (d + 1)) k else T1.2.2 (48 + d) k)) (fun x => Fnd x ∨ SubK f n d (2 * q) x) (by omega) (by omega) (by
          have h1 : q * 2 ^ (d + 1) + 2 ^ (d + 1) ≤ 2 ^ n := by
            have hpos := Nat.two_pow_pos (d + 1)
            have hq' : q < 2 ^ (n - (d + 1)) := by
              have h5 : q * 2 ^ (d + 1) < 2 ^ (n - (d + 1)) * 2 ^ (d + 1) := by rw [← Nat.pow_add, show n - (d + 1) + (d + 1) = n from by omega]; exact hq
              exact Nat.lt_of_mul_lt_mul_right h5
            have h6 : (q + 1) * 2 ^ (d + 1) ≤ 2 ^ (n - (d + 1)) * 2 ^ (d + 1) := Nat.mul_le_mul_right _ hq'
            rw [← Nat.pow_add, show n - (d + 1) + (d + 1) = n from by omega, Nat.add_mul, Nat.one_mul] at h6
            exact h6
          have h2 : 2 ^ d < 2 ^ (d + 1) := Nat.pow_lt_pow_right (by omega) (by omega)
          rw [hq3]; omega) hWT1 (fun s hs => by rw [hrU s hs, hR s hs, lvK_keep]) (a1.fr rfl rfl) hFp1 (fun k hk h => h.elim (hnew k (SubK_s.mpr (Or.inr hk))) (fun h => SubK_dj hn (by omega) h hk))
        refine ⟨T2, b1.cg (fun k => ?_), ⟨fun p hp => by rw [b2.1 p hp]; show T1.1 p = _; rw [a2.1 p hp, f1], by rw [b2.2.1]; show T1.1 45 2 = _; rw [a2.2.1, f1], fun p hp => by rw [b2.2.2 p hp]; show T1.2.1 p = _; rw [a2.2.2 p hp, f2]⟩, fun p hp => ?_, ?_⟩
        · show _ ↔ (Fnd k ∨ SubK f n (d + 1) q k)
          rw [SubK_s]
          exact ⟨fun h => h.elim (fun h => h.elim Or.inl (fun h => Or.inr (Or.inl h))) (fun h => Or.inr (Or.inr h)), fun h => h.elim (fun h => Or.inl (Or.inl h)) (fun h => h.elim (fun h => Or.inl (Or.inr h)) Or.inr)⟩
        · rw [b3 p (by omega)]
          show upR T1.2.2 (48 + d) _ p = _
          unfold upR
          rw [if_neg (show ¬ p = 48 + d by omega), a3 p (by omega), f3 p (by omega)]
        · rw [hbeg, a4]
          simp only [f_X_walk_123, f_X_walk_161, Option.bind_some, is_0, gr_0_0, gr_0_1, gr_0_2, gr_0_3, gr_0_4, gr_0_5, gi_tp, pi_tp, gi_tf, pi_tf, gi_xf, pi_xf, is_1, gr_1_0, gr_1_1, gi_en, pi_en, is_4, gr_4_0, gr_4_1, gr_4_2, gr_4_3, gi_gn, pi_gn, is_9, gr_9_0, gr_9_1, gi_ts, pi_ts, gi_tw, pi_tw, gi_tc, pi_tc, is_40, gr_40_0, is_42, gr_42_0, gr_42_1, gi_dn, pi_dn, is_45, gr_45_0, gr_45_1, gi_xw, pi_xw, gi_xn, pi_xn, gi_xt, pi_xt, is_59, gi_mco, pi_mco, gi_mev, pi_mev, gr_59_2, gr_59_3, gi_mgt, pi_mgt, gr_59_5, gr_59_6, gr_59_7, gr_59_8, gi_mtp, pi_mtp, gr_59_10, gr_59_11, gr_59_12, gr_59_13, gr_59_14, gr_59_15, gi_mmy, pi_mmy, gr_59_17, gr_59_18, if_neg (fun h => hlost (lg_0.mp h)), ra_lv (show d + 1 < 11 by omega), ra_lv (show d < 11 by omega), hWT1, cp_lv (show d + 1 < 11 by omega) (show d < 11 by omega) hw16, n32_shl (show d < 31 by omega), kept_or, b4]
    · refine ⟨S, X_many hT h4, FrX.rf, fun _ _ => rfl, ?_⟩
      simp only [f_X_walk, f_X_walk_b, f_X_walk_11, Option.bind_some, is_0, gr_0_0, gr_0_1, gr_0_2, gr_0_3, gr_0_4, gr_0_5, gi_tp, pi_tp, gi_tf, pi_tf, gi_xf, pi_xf, is_1, gr_1_0, gr_1_1, gi_en, pi_en, is_4, gr_4_0, gr_4_1, gr_4_2, gr_4_3, gi_gn, pi_gn, is_9, gr_9_0, gr_9_1, gi_ts, pi_ts, gi_tw, pi_tw, gi_tc, pi_tc, is_40, gr_40_0, is_42, gr_42_0, gr_42_1, gi_dn, pi_dn, is_45, gr_45_0, gr_45_1, gi_xw, pi_xw, gi_xn, pi_xn, gi_xt, pi_xt, is_59, gi_mco, pi_mco, gi_mev, pi_mev, gr_59_2, gr_59_3, gi_mgt, pi_mgt, gr_59_5, gr_59_6, gr_59_7, gr_59_8, gi_mtp, pi_mtp, gr_59_10, gr_59_11, gr_59_12, gr_59_13, gr_59_14, gr_59_15, gi_mmy, pi_mmy, gr_59_17, gr_59_18, if_neg h4]
theorem PrK_sub {k : Nat} : SubK f n n 0 k ↔ PrK f n k := by
  constructor
  · rintro ⟨kept, on, h1, h2, _⟩; exact ⟨kept, on, h1, h2⟩
  · rintro ⟨kept, on, h1, h2⟩; exact ⟨kept, on, h1, h2, Nat.div_eq_of_lt h1.1⟩
theorem X_find {t : Nat} (hn : n ≤ 10) (ht : t < 12) (B : Tb S n t f) (hf : ∀ s, f (s % 2 ^ n) = f s) (hfu : 2000 ≤ fu) : ∃ T, TS (PrK f n) T (PrK f n) ∧ ((∀ q, q ≠ 45 → T.1 q = S.1 q) ∧ (∀ q, q ≠ 46 → T.2.1 q = S.2.1 q) ∧ (∀ q, q < 48 ∨ 59 ≤ q → T.2.2 q = S.2.2 q)) ∧ f_X_find fu 45 9 (n32 n) (enc S) = some (enc T) := by
  have hw16 := (wo_le hn).1
  obtain ⟨U, hU⟩ : ∃ U, U = sS (sS (sS S 45 2 (n32 (wo n))) 45 3 0) 45 4 0 := ⟨_, rfl⟩
  have u1 : ∀ q, q ≠ 45 → U.1 q = S.1 q := fun q hq => by rw [hU, sS1, if_neg hq, sS1, if_neg hq, sS1, if_neg hq]
  have u2 : U.1 45 2 = n32 (wo n) := by rw [hU]; rfl
  have u3 : U.1 45 3 = 0 := by rw [hU]; rfl
  have u4 : U.1 45 4 = 0 := by rw [hU]; rfl
  have u5 : U.2 = S.2 := by rw [hU]; rfl
  obtain ⟨⟨any, T⟩, ⟨⟨f1, f2, f3⟩, t2, t3⟩, m, e1⟩ := lp0 (σ := Int64 × Ws) (F := fun m w p => f_X_find_23 fu m 45 9 (n32 n) p.1 (n32 w) (enc p.2)) (I := fun w p => (p.2.1 = U.1 ∧ p.2.2.1 = U.2.1 ∧ ∀ q, q ≠ 48 + n → p.2.2.2 q = U.2.2 q) ∧ (∀ s, s < 64 * w → rb p.2 n s = f s) ∧ (p.1 = 0 ↔ ∀ s, s < 64 * w → f s = false)) (N := wo n) (n := fu) (s := ((0 : Int64), U)) (by omega) ⟨⟨rfl, rfl, fun _ _ => rfl⟩, fun s h => absurd h (by omega), ⟨fun _ s h => absurd h (by omega), fun _ => rfl⟩⟩ (fun m w p hw hI => by
    obtain ⟨any, T⟩ := p
    obtain ⟨⟨f1, f2, f3⟩, h2, h3⟩ := hI
    dsimp only at f1 f2 f3 h2 h3
    have hle : ¬ n32 (wo n) ≤ n32 w := by rw [n32_le (by omega) (by omega)]; omega
    have hWT : T.1 45 2 = n32 (wo n) := by rw [f1]; exact u2
    have hCT : T.1 9 4 = n32 (16 + t) := by rw [f1, u1 9 (by omega)]; exact B.2.2.1
    have hy : ∀ b, b < 64 → lb (T.2.2 (11 + (16 + t)) w) b = f (64 * w + b) := fun b hb => by
      rw [f3 _ (by omega), u5]
      have := B.2.2.2 (64 * w + b) (by omega)
      rw [show (64 * w + b) / 64 = w from by omega, show (64 * w + b) % 64 = b from by omega] at this
      exact this
    refine ⟨(any ||| T.2.2 (11 + (16 + t)) w, sL T (48 + n) w (T.2.2 (11 + (16 + t)) w)), ⟨⟨f1, f2, fun q hq => by rw [sL3, if_neg hq]; exact f3 q hq⟩, fun s hs => ?_, ?_⟩, ?_⟩
    · dsimp only
      by_cases hsw : s / 64 = w
      · have := hy (s % 64) (by omega)
        rw [show 64 * w + s % 64 = s from by omega] at this
        rw [← this]
        unfold rb
        rw [sL3, if_pos rfl, updL_at, if_pos hsw]
      · rw [← h2 s (by omega)]
        unfold rb
        rw [sL3, if_pos rfl, updL_at, if_neg hsw]
    · dsimp only
      rw [lor0, h3, lb_z]
      constructor
      · rintro ⟨g1, g2⟩ s hs
        by_cases hsw : s / 64 = w
        · have := g2 (s % 64) (by omega)
          rw [hy _ (by omega), show 64 * w + s % 64 = s from by omega] at this; exact this
        · exact g1 s (by omega)
      · intro g
        exact ⟨fun s hs => g s (by omega), fun b hb => by rw [hy b hb]; exact g _ (by omega)⟩
    · have hy12 : (sL T (48 + n) w (T.2.2 (11 + (16 + t)) w)).2.2 (48 + n) w = T.2.2 (11 + (16 + t)) w := by rw [sL3, if_pos rfl, updL_at, if_pos rfl]
      simp only [f_X_find_23, Option.bind_some, is_0, gr_0_0, gr_0_1, gr_0_2, gr_0_3, gr_0_4, gr_0_5, gi_tp, pi_tp, gi_tf, pi_tf, gi_xf, pi_xf, is_1, gr_1_0, gr_1_1, gi_en, pi_en, is_4, gr_4_0, gr_4_1, gr_4_2, gr_4_3, gi_gn, pi_gn, is_9, gr_9_0, gr_9_1, gi_ts, pi_ts, gi_tw, pi_tw, gi_tc, pi_tc, is_40, gr_40_0, is_42, gr_42_0, gr_42_1, gi_dn, pi_dn, is_45, gr_45_0, gr_45_1, gi_xw, pi_xw, gi_xn, pi_xn, gi_xt, pi_xt, is_59, gi_mco, pi_mco, gi_mev, pi_mev, gr_59_2, gr_59_3, gi_mgt, pi_mgt, gr_59_5, gr_59_6, gr_59_7, gr_59_8, gi_mtp, pi_mtp, gr_59_10, gr_59_11, gr_59_12, gr_59_13, gr_59_14, gr_59_15, gi_mmy, pi_mmy, gr_59_17, gr_59_18, hWT, if_neg hle, ra_lv (show n < 11 by omega), hCT, ra_rw (show 16 + t < 28 by omega), rd_rw (show 16 + t < 28 by omega) (show w < 16 by omega), wr_lv (show n < 11 by omega) (show w < 16 by omega), rd_lv (show n < 11 by omega) (show w < 16 by omega), hy12, nl_add])
  dsimp only at f1 f2 f3 t2 t3
  have hWT : T.1 45 2 = n32 (wo n) := by rw [f1]; exact u2
  have hTS : TS (PrK f n) T (fun _ => False) := Or.inl ⟨by rw [f1]; exact u4, 0, fun _ => 0, by omega, fun i j _ h => absurd h (by omega), by rw [f1]; exact u3, fun j h => absurd h (by omega), fun k => ⟨fun h => h.elim, fun ⟨j, h, _⟩ => absurd h (by omega)⟩⟩
  have hbeg : f_X_find fu 45 9 (n32 n) (enc S) = f_X_find_23 fu fu 45 9 (n32 n) 0 (n32 0) (enc U) := by
    simp only [f_X_find, Option.bind_some, is_0, gr_0_0, gr_0_1, gr_0_2, gr_0_3, gr_0_4, gr_0_5, gi_tp, pi_tp, gi_tf, pi_tf, gi_xf, pi_xf, is_1, gr_1_0, gr_1_1, gi_en, pi_en, is_4, gr_4_0, gr_4_1, gr_4_2, gr_4_3, gi_gn, pi_gn, is_9, gr_9_0, gr_9_1, gi_ts, pi_ts, gi_tw, pi_tw, gi_tc, pi_tc, is_40, gr_40_0, is_42, gr_42_0, gr_42_1, gi_dn, pi_dn, is_45, gr_45_0, gr_45_1, gi_xw, pi_xw, gi_xn, pi_xn, gi_xt, pi_xt, is_59, gi_mco, pi_mco, gi_mev, pi_mev, gr_59_2, gr_59_3, gi_mgt, pi_mgt, gr_59_5, gr_59_6, gr_59_7, gr_59_8, gi_mtp, pi_mtp, gr_59_10, gr_59_11, gr_59_12, gr_59_13, gr_59_14, gr_59_15, gi_mmy, pi_mmy, gr_59_17, gr_59_18, B.2.1, pz_xt (Or.inl rfl)]
    rw [hU]; rfl
  by_cases hany : any = 0
  · refine ⟨T, hTS.cg (fun k => ⟨fun h => h.elim, fun h => ?_⟩), ⟨fun q hq => by rw [f1, u1 q hq], fun q hq => by rw [f2, u5], fun q hq => by rw [f3 q (by omega), u5]⟩, ?_⟩
    · obtain ⟨kept, on, h1, -⟩ := h
      have hon := h1.lt
      have h5 := h1.2.2.1 on hon (fun _ _ _ => rfl)
      rw [t3.mp hany on (wo_s hon)] at h5; cases h5
    · rw [hbeg]
      refine Eq.trans e1 ?_
      simp only [f_X_find_23, f_X_find_83, Option.bind_some, is_0, gr_0_0, gr_0_1, gr_0_2, gr_0_3, gr_0_4, gr_0_5, gi_tp, pi_tp, gi_tf, pi_tf, gi_xf, pi_xf, is_1, gr_1_0, gr_1_1, gi_en, pi_en, is_4, gr_4_0, gr_4_1, gr_4_2, gr_4_3, gi_gn, pi_gn, is_9, gr_9_0, gr_9_1, gi_ts, pi_ts, gi_tw, pi_tw, gi_tc, pi_tc, is_40, gr_40_0, is_42, gr_42_0, gr_42_1, gi_dn, pi_dn, is_45, gr_45_0, gr_45_1, gi_xw, pi_xw, gi_xn, pi_xn, gi_xt, pi_xt, is_59, gi_mco, pi_mco, gi_mev, pi_mev, gr_59_2, gr_59_3, gi_mgt, pi_mgt, gr_59_5, gr_59_6, gr_59_7, gr_59_8, gi_mtp, pi_mtp, gr_59_10, gr_59_11, gr_59_12, gr_59_13, gr_59_14, gr_59_15, gi_mmy, pi_mmy, gr_59_17, gr_59_18, hWT, if_pos (show n32 (wo n) ≤ n32 (wo n) from (n32_le (by omega) (by omega)).mpr (Nat.le_refl _)), if_pos (lg_0.mpr hany)]
  · have hl : lvK n 0 = 2 ^ n - 1 := by unfold lvK; rw [Nat.zero_mul, Nat.zero_add]
    obtain ⟨V, v1, v2, v3, v4⟩ := X_walk (fu := fu) (f := f) hn hfu n 12 0 T (fun _ => False) (Nat.le_refl _) (by omega) (by rw [Nat.zero_mul]; exact Nat.two_pow_pos _) hWT (fun s hs => by rw [t2 s hs, hl, cau_full hf]) hTS (fun k h => h.elim) (fun k _ h => h)
    refine ⟨V, v1.cg (fun k => ⟨fun h => h.elim (fun h => h.elim) PrK_sub.mp, fun h => Or.inr (PrK_sub.mpr h)⟩), ⟨fun q hq => by rw [v2.1 q hq, f1, u1 q hq], fun q hq => by rw [v2.2.2 q hq, f2, u5], fun q hq => by rw [v3 q (by omega), f3 q (by omega), u5]⟩, ?_⟩
    rw [Nat.zero_mul] at v4
    have v4' : f_X_walk fu 12 45 (n32 n) (0 : Int32) (enc T) = some (enc V) := v4
    rw [hbeg]
    refine Eq.trans e1 ?_
    simp only [f_X_find_23, f_X_find_83, Option.bind_some, is_0, gr_0_0, gr_0_1, gr_0_2, gr_0_3, gr_0_4, gr_0_5, gi_tp, pi_tp, gi_tf, pi_tf, gi_xf, pi_xf, is_1, gr_1_0, gr_1_1, gi_en, pi_en, is_4, gr_4_0, gr_4_1, gr_4_2, gr_4_3, gi_gn, pi_gn, is_9, gr_9_0, gr_9_1, gi_ts, pi_ts, gi_tw, pi_tw, gi_tc, pi_tc, is_40, gr_40_0, is_42, gr_42_0, gr_42_1, gi_dn, pi_dn, is_45, gr_45_0, gr_45_1, gi_xw, pi_xw, gi_xn, pi_xn, gi_xt, pi_xt, is_59, gi_mco, pi_mco, gi_mev, pi_mev, gr_59_2, gr_59_3, gi_mgt, pi_mgt, gr_59_5, gr_59_6, gr_59_7, gr_59_8, gi_mtp, pi_mtp, gr_59_10, gr_59_11, gr_59_12, gr_59_13, gr_59_14, gr_59_15, gi_mmy, pi_mmy, gr_59_17, gr_59_18, hWT, if_pos (show n32 (wo n) ≤ n32 (wo n) from (n32_le (by omega) (by omega)).mpr (Nat.le_refl _)), if_neg (fun h => hany (lg_0.mp h)), v4']
end
