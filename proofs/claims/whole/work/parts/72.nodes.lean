/-! nodes: the desk's numbers of functions -/
section
variable {fu : Nat} {S : Ws} {f : Nat → Bool}
/-- two blocks of settings are alike -/
def alk (f : Nat → Bool) (e a b : Nat) : Bool := (List.range (2 ^ e)).all (fun i => f (a * 2 ^ e + i) == f (b * 2 ^ e + i))
theorem alk_iff {e a b : Nat} : alk f e a b = true ↔ ∀ i, i < 2 ^ e → f (a * 2 ^ e + i) = f (b * 2 ^ e + i) := by
  unfold alk
  rw [List.all_eq_true]
  constructor
  · intro h i hi; exact eq_of_beq (h i (List.mem_range.mpr hi))
  · intro h i hi; exact beq_iff_eq.mpr (h i (List.mem_range.mp hi))
theorem alk_sy {e a b : Nat} (h : alk f e a b = true) : alk f e b a = true := alk_iff.mpr (fun i hi => (alk_iff.mp h i hi).symm)
theorem alk_tr {e a b c : Nat} (h : alk f e a b = true) (g : alk f e b c = true) : alk f e a c = true := alk_iff.mpr (fun i hi => (alk_iff.mp h i hi).trans (alk_iff.mp g i hi))
theorem alk_s {e a b : Nat} : alk f (e + 1) a b = true ↔ (alk f e (2 * a) (2 * b) = true ∧ alk f e (2 * a + 1) (2 * b + 1) = true) := by
  rw [alk_iff, alk_iff, alk_iff]
  constructor
  · intro h
    refine ⟨fun i hi => ?_, fun i hi => ?_⟩
    · rw [pw2, pw2]; exact h i (by rw [Nat.pow_succ]; omega)
    · rw [pw3, pw3]; exact h (2 ^ e + i) (by rw [Nat.pow_succ]; omega)
  · rintro ⟨h1, h2⟩ i hi
    rw [Nat.pow_succ] at hi
    by_cases hi2 : i < 2 ^ e
    · have := h1 i hi2
      rw [pw2, pw2] at this; exact this
    · have := h2 (i - 2 ^ e) (by omega)
      rw [pw3, pw3, show 2 ^ e + (i - 2 ^ e) = i from by omega] at this; exact this
/-- a new node -/
def nw (f : Nat → Bool) (e j : Nat) : Bool := !alk f e (2 * j) (2 * j + 1) && (List.range j).all (fun j' => !alk f (e + 1) j j')
theorem nw_iff {e j : Nat} : nw f e j = true ↔ (alk f e (2 * j) (2 * j + 1) = false ∧ ∀ j', j' < j → alk f (e + 1) j j' = false) := by
  unfold nw
  rw [Bool.and_eq_true, List.all_eq_true, Bool.not_eq_true']
  constructor
  · rintro ⟨h1, h2⟩; exact ⟨h1, fun j' hj => by have := h2 j' (List.mem_range.mpr hj); rw [Bool.not_eq_true'] at this; exact this⟩
  · rintro ⟨h1, h2⟩; exact ⟨h1, fun j' hj => by rw [Bool.not_eq_true']; exact h2 j' (List.mem_range.mp hj)⟩
def cN (f : Nat → Bool) (e : Nat) : Nat → Nat
  | 0 => 0
  | j + 1 => cN f e j + (if nw f e j = true then 1 else 0)
theorem cN_le {e : Nat} : ∀ j, cN f e j ≤ j
  | 0 => Nat.le_refl _
  | j + 1 => by
    have := cN_le (e := e) j
    show cN f e j + (if nw f e j = true then 1 else 0) ≤ j + 1
    split <;> omega
def tN (f : Nat → Bool) (n : Nat) : Nat → Nat
  | 0 => 0
  | e + 1 => tN f n e + cN f e (2 ^ (n - 1 - e))
/-- the desk's search among the pairs -/
theorem D_no21 {cnt : Nat} {pr : Int32} (hc : S.1 42 2 = n32 cnt) (hcb : cnt < 1024) : ∀ (m n i : Nat), i + m = cnt → m < n → ((∃ i', i ≤ i' ∧ i' < cnt ∧ S.2.1 44 i' = pr ∧ f_D_numberOf_21 fu n 42 pr (n32 i) (enc S) = some (n32 (2 + i'), enc S)) ∨ ((∀ i', i ≤ i' → i' < cnt → S.2.1 44 i' ≠ pr) ∧ f_D_numberOf_21 fu n 42 pr (n32 i) (enc S) = some (n32 (2 + cnt), enc (sS (sI S 44 cnt pr) 42 2 (n32 (cnt + 1))))))
  | _, 0, _, _, h => absurd h (by omega)
  | 0, n + 1, i, hi, _ => by
    obtain rfl : i = cnt := by omega
    refine Or.inr ⟨fun i' h1 h2 => absurd h1 (by omega), ?_⟩
    simp only [f_D_numberOf_21, Option.bind_some, is_0, gr_0_0, gr_0_1, gr_0_2, gr_0_3, gr_0_4, gr_0_5, gi_tp, pi_tp, gi_tf, pi_tf, gi_xf, pi_xf, is_1, gr_1_0, gr_1_1, gi_en, pi_en, is_4, gr_4_0, gr_4_1, gr_4_2, gr_4_3, gi_gn, pi_gn, is_9, gr_9_0, gr_9_1, gi_ts, pi_ts, gi_tw, pi_tw, gi_tc, pi_tc, is_40, gr_40_0, is_42, gr_42_0, gr_42_1, gi_dn, pi_dn, is_45, gr_45_0, gr_45_1, gi_xw, pi_xw, gi_xn, pi_xn, gi_xt, pi_xt, is_59, gi_mco, pi_mco, gi_mev, pi_mev, gr_59_2, gr_59_3, gi_mgt, pi_mgt, gr_59_5, gr_59_6, gr_59_7, gr_59_8, gi_mtp, pi_mtp, gr_59_10, gr_59_11, gr_59_12, gr_59_13, gr_59_14, gr_59_15, gi_mmy, pi_mmy, gr_59_17, gr_59_18, hc, if_pos (show n32 i ≤ n32 i from (n32_le (by omega) (by omega)).mpr (Nat.le_refl _)), wr_dp hcb, sI1, nl_add, sS1, if_true, upd_at, ln_add]
    rw [show 1 + (i + 1) = 2 + i from by omega]
  | m + 1, n + 1, i, hi, hn => by
    have hle : ¬ n32 cnt ≤ n32 i := by rw [n32_le (by omega) (by omega)]; omega
    by_cases hp : S.2.1 44 i = pr
    · refine Or.inl ⟨i, Nat.le_refl _, by omega, hp, ?_⟩
      simp only [f_D_numberOf_21, Option.bind_some, is_0, gr_0_0, gr_0_1, gr_0_2, gr_0_3, gr_0_4, gr_0_5, gi_tp, pi_tp, gi_tf, pi_tf, gi_xf, pi_xf, is_1, gr_1_0, gr_1_1, gi_en, pi_en, is_4, gr_4_0, gr_4_1, gr_4_2, gr_4_3, gi_gn, pi_gn, is_9, gr_9_0, gr_9_1, gi_ts, pi_ts, gi_tw, pi_tw, gi_tc, pi_tc, is_40, gr_40_0, is_42, gr_42_0, gr_42_1, gi_dn, pi_dn, is_45, gr_45_0, gr_45_1, gi_xw, pi_xw, gi_xn, pi_xn, gi_xt, pi_xt, is_59, gi_mco, pi_mco, gi_mev, pi_mev, gr_59_2, gr_59_3, gi_mgt, pi_mgt, gr_59_5, gr_59_6, gr_59_7, gr_59_8, gi_mtp, pi_mtp, gr_59_10, gr_59_11, gr_59_12, gr_59_13, gr_59_14, gr_59_15, gi_mmy, pi_mmy, gr_59_17, gr_59_18, hc, if_neg hle, rd_dp (show i < 1024 by omega), if_pos hp, ln_add]
    · have e1 : f_D_numberOf_21 fu (n + 1) 42 pr (n32 i) (enc S) = f_D_numberOf_21 fu n 42 pr (n32 (i + 1)) (enc S) := by
        simp only [f_D_numberOf_21, Option.bind_some, is_0, gr_0_0, gr_0_1, gr_0_2, gr_0_3, gr_0_4, gr_0_5, gi_tp, pi_tp, gi_tf, pi_tf, gi_xf, pi_xf, is_1, gr_1_0, gr_1_1, gi_en, pi_en, is_4, gr_4_0, gr_4_1, gr_4_2, gr_4_3, gi_gn, pi_gn, is_9, gr_9_0, gr_9_1, gi_ts, pi_ts, gi_tw, pi_tw, gi_tc, pi_tc, is_40, gr_40_0, is_42, gr_42_0, gr_42_1, gi_dn, pi_dn, is_45, gr_45_0, gr_45_1, gi_xw, pi_xw, gi_xn, pi_xn, gi_xt, pi_xt, is_59, gi_mco, pi_mco, gi_mev, pi_mev, gr_59_2, gr_59_3, gi_mgt, pi_mgt, gr_59_5, gr_59_6, gr_59_7, gr_59_8, gi_mtp, pi_mtp, gr_59_10, gr_59_11, gr_59_12, gr_59_13, gr_59_14, gr_59_15, gi_mmy, pi_mmy, gr_59_17, gr_59_18, hc, if_neg hle, rd_dp (show i < 1024 by omega), if_neg hp, nl_add]
      rcases D_no21 hc hcb m n (i + 1) (by omega) (by omega) with ⟨i', h1, h2, h3, h4⟩ | ⟨h1, h2⟩
      · exact Or.inl ⟨i', by omega, h2, h3, e1.trans h4⟩
      · refine Or.inr ⟨fun i' h3 h4 => ?_, e1.trans h2⟩
        by_cases hii : i' = i
        · rw [hii]; exact hp
        · exact h1 i' (by omega) h4
/-- within a level -/
def DJ (f : Nat → Bool) (S : Ws) (c : Nat → Nat) (e first N j : Nat) (d : Nat → Nat) (cnt : Nat) (T : Ws) : Prop :=
  ((∀ q, q ≠ 42 → T.1 q = S.1 q) ∧ (∀ q, q ≠ 43 → q ≠ 44 → T.2.1 q = S.2.1 q) ∧ T.2.2 = S.2.2) ∧ T.1 42 2 = n32 cnt ∧ cnt = first + cN f e j ∧ (∀ a, a < j → T.2.1 43 a = n32 (d a) ∧ d a < 2 + cnt) ∧ (∀ a, j ≤ a → a < 2 * N → T.2.1 43 a = n32 (c a)) ∧ (∀ a, a < j → alk f e (2 * a) (2 * a + 1) = true → d a = c (2 * a)) ∧ (∀ a, a < j → alk f e (2 * a) (2 * a + 1) = false → ∃ i, first ≤ i ∧ i < cnt ∧ d a = 2 + i ∧ T.2.1 44 i = n32 (c (2 * a) * 2048 + c (2 * a + 1))) ∧ (∀ i, first ≤ i → i < cnt → ∃ a, a < j ∧ alk f e (2 * a) (2 * a + 1) = false ∧ T.2.1 44 i = n32 (c (2 * a) * 2048 + c (2 * a + 1))) ∧ (∀ i i', first ≤ i → i < cnt → first ≤ i' → i' < cnt → T.2.1 44 i = T.2.1 44 i' → i = i')
theorem pr_inj {a b c d : Nat} (ha : a < 1026) (hb : b < 1026) (hc : c < 1026) (hd : d < 1026) (h : n32 (a * 2048 + b) = n32 (c * 2048 + d)) : a = c ∧ b = d := by
  have := (n32_inj (by omega) (by omega)).mp h
  omega
theorem D_67 {c : Nat → Nat} {e first N : Nat} (hN : N ≤ 512) (hc : ∀ a, a < 2 * N → S.2.1 43 a = n32 (c a) ∧ c a < 2 + first) (hr : ∀ a b, a < 2 * N → b < 2 * N → (c a = c b ↔ alk f e a b = true)) (hf : first + N < 1024) (h42 : S.1 42 2 = n32 first) (hfu : 2000 ≤ fu) (v2 v4 : Int32) (k48 : Nat → Int32 → Int32 → Int32 → List va_E → Option (Int32 × List va_E)) : ∃ d T, DJ f S c e first N N d (first + cN f e N) T ∧ f_D_countNodes_67 fu k48 fu 42 v2 (n32 N) v4 (n32 first) 0 (enc S) = k48 42 v2 (n32 N) (v4 + 1) (enc T) := by
  obtain ⟨⟨d, cnt, T⟩, h, m, e1⟩ := lp0 (σ := (Nat → Nat) × Nat × Ws) (F := fun n j p => f_D_countNodes_67 fu k48 n 42 v2 (n32 N) v4 (n32 first) (n32 j) (enc p.2.2)) (I := fun j p => DJ f S c e first N j p.1 p.2.1 p.2.2) (N := N) (n := fu) (s := (fun _ => 0, first, S)) (by omega) ⟨⟨fun _ _ => rfl, fun _ _ _ => rfl, rfl⟩, h42, rfl, fun a h => absurd h (by omega), fun a _ h => (hc a h).1, fun a h => absurd h (by omega), fun a h => absurd h (by omega), fun i h1 h2 => by dsimp only at h2; omega, fun i i' h1 h2 => by dsimp only at h2; omega⟩ (fun n j p hj hI => by
    obtain ⟨d, cnt, T⟩ := p
    obtain ⟨⟨f1, f2, f3⟩, b1, b2, b3, b4, b5, b6, b7, b8⟩ := hI
    dsimp only at f1 f2 f3 b1 b2 b3 b4 b5 b6 b7 b8
    have hle : ¬ n32 N ≤ n32 j := by rw [n32_le (by omega) (by omega)]; omega
    have hcj := cN_le (f := f) (e := e) j
    have hcnt : cnt < 1024 := by omega
    have r1 := b4 (2 * j) (by omega) (by omega)
    have r2 := b4 (2 * j + 1) (by omega) (by omega)
    have l1 := (hc (2 * j) (by omega)).2
    have l2 := (hc (2 * j + 1) (by omega)).2
    have hal := hr (2 * j) (2 * j + 1) (by omega) (by omega)
    have go : ∀ (x : Nat) (T' : Ws), f_D_numberOf fu 42 (n32 (c (2 * j))) (n32 (c (2 * j + 1))) (n32 first) (enc T) = some (n32 x, enc T') → f_D_countNodes_67 fu k48 (n + 1) 42 v2 (n32 N) v4 (n32 first) (n32 j) (enc T) = f_D_countNodes_67 fu k48 n 42 v2 (n32 N) v4 (n32 first) (n32 (j + 1)) (enc (sI T' 43 j (n32 x))) := fun x T' ex => by
      simp only [f_D_countNodes_67, Option.bind_some, is_0, gr_0_0, gr_0_1, gr_0_2, gr_0_3, gr_0_4, gr_0_5, gi_tp, pi_tp, gi_tf, pi_tf, gi_xf, pi_xf, is_1, gr_1_0, gr_1_1, gi_en, pi_en, is_4, gr_4_0, gr_4_1, gr_4_2, gr_4_3, gi_gn, pi_gn, is_9, gr_9_0, gr_9_1, gi_ts, pi_ts, gi_tw, pi_tw, gi_tc, pi_tc, is_40, gr_40_0, is_42, gr_42_0, gr_42_1, gi_dn, pi_dn, is_45, gr_45_0, gr_45_1, gi_xw, pi_xw, gi_xn, pi_xn, gi_xt, pi_xt, is_59, gi_mco, pi_mco, gi_mev, pi_mev, gr_59_2, gr_59_3, gi_mgt, pi_mgt, gr_59_5, gr_59_6, gr_59_7, gr_59_8, gi_mtp, pi_mtp, gr_59_10, gr_59_11, gr_59_12, gr_59_13, gr_59_14, gr_59_15, gi_mmy, pi_mmy, gr_59_17, gr_59_18, if_neg hle, ln_mul, nl_add, rd_dc (show 2 * j < 1024 by omega), rd_dc (show 2 * j + 1 < 1024 by omega), r1, r2, ex, wr_dc (show j < 1024 by omega)]
    have cell : ∀ (x : Nat) (T' : Ws) (cnt' : Nat), T'.2.1 43 = T.2.1 43 → cnt ≤ cnt' → x < 2 + cnt' → ((∀ a, a < j + 1 → (sI T' 43 j (n32 x)).2.1 43 a = n32 ((fun a => if a = j then x else d a) a) ∧ (fun a => if a = j then x else d a) a < 2 + cnt') ∧ (∀ a, j + 1 ≤ a → a < 2 * N → (sI T' 43 j (n32 x)).2.1 43 a = n32 (c a))) := fun x T' cnt' h43 hcc hx => by
      refine ⟨fun a ha => ?_, fun a ha1 ha2 => ?_⟩
      · rw [sI2, if_pos rfl, upd_at, h43]
        dsimp only
        by_cases haj : a = j
        · rw [if_pos haj, if_pos haj]; exact ⟨rfl, hx⟩
        · rw [if_neg haj, if_neg haj]
          have := b3 a (by omega)
          exact ⟨this.1, by omega⟩
      · rw [sI2, if_pos rfl, upd_at, h43, if_neg (show ¬ a = j by omega)]
        exact b4 a (by omega) ha2
    by_cases hal1 : alk f e (2 * j) (2 * j + 1) = true
    · have hnw : nw f e j = false := by
        cases h : nw f e j with
        | false => rfl
        | true => have := (nw_iff.mp h).1; rw [hal1] at this; cases this
      have hcc := hal.mpr hal1
      obtain ⟨g1, g2⟩ := cell (c (2 * j)) T cnt rfl (Nat.le_refl _) (by omega)
      refine ⟨(fun a => if a = j then c (2 * j) else d a, cnt, sI T 43 j (n32 (c (2 * j)))), ⟨⟨f1, fun q h43 h44 => by rw [sI2, if_neg h43]; exact f2 q h43 h44, f3⟩, b1, ?_, g1, g2, fun a ha hh => ?_, fun a ha hh => ?_, fun i h1 h2 => ?_, b8⟩, go _ T ?_⟩
      · show cnt = first + (cN f e j + (if nw f e j = true then 1 else 0))
        rw [hnw, b2]; rfl
      · dsimp only
        by_cases haj : a = j
        · rw [if_pos haj, haj]
        · rw [if_neg haj]; exact b5 a (by omega) hh
      · dsimp only
        by_cases haj : a = j
        · rw [haj, hal1] at hh; cases hh
        · rw [if_neg haj]; exact b6 a (by omega) hh
      · obtain ⟨a, h3, h4, h5⟩ := b7 i h1 h2
        exact ⟨a, by omega, h4, h5⟩
      · unfold f_D_numberOf
        rw [if_pos (by rw [hcc])]
    · have hal0 : alk f e (2 * j) (2 * j + 1) = false := by
        cases h : alk f e (2 * j) (2 * j + 1) with
        | false => rfl
        | true => exact absurd h hal1
      have hcc : ¬ c (2 * j) = c (2 * j + 1) := fun q => hal1 (hal.mp q)
      have hn0 : f_D_numberOf fu 42 (n32 (c (2 * j))) (n32 (c (2 * j + 1))) (n32 first) (enc T) = f_D_numberOf_21 fu fu 42 (n32 (c (2 * j) * 2048 + c (2 * j + 1))) (n32 first) (enc T) := by
        unfold f_D_numberOf
        rw [if_neg (fun q => hcc ((n32_inj (by omega) (by omega)).mp q)), nl_mul, nl_mul, n32_add, show c (2 * j) * 2 * 1024 = c (2 * j) * 2048 from by omega]
      have same : ∀ a, a < j → (n32 (c (2 * a) * 2048 + c (2 * a + 1)) = n32 (c (2 * j) * 2048 + c (2 * j + 1)) ↔ alk f (e + 1) j a = true) := fun a ha => by
        have k1 := (hc (2 * a) (by omega)).2
        have k2 := (hc (2 * a + 1) (by omega)).2
        rw [alk_s, ← hr (2 * j) (2 * a) (by omega) (by omega), ← hr (2 * j + 1) (2 * a + 1) (by omega) (by omega)]
        constructor
        · intro h
          have := pr_inj (by omega) (by omega) (by omega) (by omega) h
          exact ⟨this.1.symm, this.2.symm⟩
        · rintro ⟨h1, h2⟩; rw [h1, h2]
      rcases D_no21 (fu := fu) (S := T) (pr := n32 (c (2 * j) * 2048 + c (2 * j + 1))) b1 hcnt (cnt - first) fu first (by omega) (by omega) with ⟨i', h1, h2, h3, h4⟩ | ⟨h1, h2⟩
      · obtain ⟨a, a1, a2, a3⟩ := b7 i' h1 h2
        have hnw : nw f e j = false := by
          cases h : nw f e j with
          | false => rfl
          | true =>
            have q1 := (nw_iff.mp h).2 a a1
            have q2 := (same a a1).mp (a3.symm.trans h3)
            rw [q1] at q2; cases q2
        obtain ⟨g1, g2⟩ := cell (2 + i') T cnt rfl (Nat.le_refl _) (by omega)
        refine ⟨(fun a => if a = j then 2 + i' else d a, cnt, sI T 43 j (n32 (2 + i'))), ⟨⟨f1, fun q h43 h44 => by rw [sI2, if_neg h43]; exact f2 q h43 h44, f3⟩, b1, ?_, g1, g2, fun a ha hh => ?_, fun a ha hh => ?_, fun i h1 h2 => ?_, b8⟩, go _ T (hn0.trans h4)⟩
        · show cnt = first + (cN f e j + (if nw f e j = true then 1 else 0))
          rw [hnw, b2]; rfl
        · dsimp only
          by_cases haj : a = j
          · rw [haj] at hh; exact absurd hh hal1
          · rw [if_neg haj]; exact b5 a (by omega) hh
        · dsimp only
          by_cases haj : a = j
          · rw [if_pos haj, haj]; exact ⟨i', h1, h2, rfl, h3⟩
          · rw [if_neg haj]; exact b6 a (by omega) hh
        · obtain ⟨a, h3, h4, h5⟩ := b7 i h1 h2
          exact ⟨a, by omega, h4, h5⟩
      · have hnw : nw f e j = true := nw_iff.mpr ⟨hal0, fun a ha => by
          cases h : alk f (e + 1) j a with
          | false => rfl
          | true =>
            have haa : alk f e (2 * a) (2 * a + 1) = false := by
              cases hq : alk f e (2 * a) (2 * a + 1) with
              | false => rfl
              | true =>
                have hs := alk_s.mp h
                exact absurd (alk_tr (alk_tr hs.1 hq) (alk_sy hs.2)) hal1
            obtain ⟨i, q1, q2, q3, q4⟩ := b6 a ha haa
            exact absurd (q4.trans ((same a ha).mpr h)) (h1 i q1 q2)⟩
        obtain ⟨g1, g2⟩ := cell (2 + cnt) (sS (sI T 44 cnt (n32 (c (2 * j) * 2048 + c (2 * j + 1)))) 42 2 (n32 (cnt + 1))) (cnt + 1) (by rw [sS2, sI2, if_neg (by decide)]) (by omega) (by omega)
        have r44 : ∀ i, (sI (sS (sI T 44 cnt (n32 (c (2 * j) * 2048 + c (2 * j + 1)))) 42 2 (n32 (cnt + 1))) 43 j (n32 (2 + cnt))).2.1 44 i = if i = cnt then n32 (c (2 * j) * 2048 + c (2 * j + 1)) else T.2.1 44 i := fun i => by
          rw [sI2, if_neg (by decide), sS2, sI2, if_pos rfl, upd_at]
        refine ⟨(fun a => if a = j then 2 + cnt else d a, cnt + 1, sI (sS (sI T 44 cnt (n32 (c (2 * j) * 2048 + c (2 * j + 1)))) 42 2 (n32 (cnt + 1))) 43 j (n32 (2 + cnt))), ⟨⟨fun q hq => by rw [sI1, sS1, if_neg hq]; exact f1 q hq, fun q h43 h44 => by rw [sI2, if_neg h43, sS2, sI2, if_neg h44]; exact f2 q h43 h44, f3⟩, rfl, ?_, g1, g2, fun a ha hh => ?_, fun a ha hh => ?_, fun i h3 h4 => ?_, fun i i' h3 h4 h5 h6 h7 => ?_⟩, go _ _ (hn0.trans h2)⟩
        · show cnt + 1 = first + (cN f e j + (if nw f e j = true then 1 else 0))
          rw [hnw, b2]; rfl
        · dsimp only
          by_cases haj : a = j
          · rw [haj] at hh; exact absurd hh hal1
          · rw [if_neg haj]; exact b5 a (by omega) hh
        · dsimp only
          by_cases haj : a = j
          · rw [if_pos haj, haj]
            exact ⟨cnt, by omega, by omega, rfl, by rw [r44, if_pos rfl]⟩
          · rw [if_neg haj]
            obtain ⟨i, q1, q2, q3, q4⟩ := b6 a (by omega) hh
            exact ⟨i, q1, by omega, q3, by rw [r44, if_neg (by omega)]; exact q4⟩
        · dsimp only at h4 ⊢
          rw [r44]
          by_cases hic : i = cnt
          · rw [if_pos hic]; exact ⟨j, by omega, hal0, rfl⟩
          · rw [if_neg hic]
            obtain ⟨a, q1, q2, q3⟩ := b7 i h3 (by omega)
            exact ⟨a, by omega, q2, q3⟩
        · dsimp only at h4 h6 h7
          rw [r44, r44] at h7
          by_cases hi : i = cnt
          · by_cases hi' : i' = cnt
            · omega
            · rw [if_pos hi, if_neg hi'] at h7
              exact absurd h7.symm (h1 i' h5 (by omega))
          · by_cases hi' : i' = cnt
            · rw [if_neg hi, if_pos hi'] at h7
              exact absurd h7 (h1 i h3 (by omega))
            · rw [if_neg hi, if_neg hi'] at h7
              exact b8 i i' h3 (by omega) h5 (by omega) h7)
  dsimp only at h
  have hcnt := h.2.2.1
  subst hcnt
  refine ⟨d, T, h, Eq.trans e1 ?_⟩
  simp only [f_D_countNodes_67, if_pos (show n32 N ≤ n32 N from (n32_le (by omega) (by omega)).mpr (Nat.le_refl _))]
theorem DJ.nx {c d : Nat → Nat} {e first N cnt : Nat} {T : Ws} (hc : ∀ a, a < 2 * N → c a < 2 + first) (hf : first < 1024) (hr : ∀ a b, a < 2 * N → b < 2 * N → (c a = c b ↔ alk f e a b = true)) (h : DJ f S c e first N N d cnt T) : ∀ a b, a < N → b < N → (d a = d b ↔ alk f (e + 1) a b = true) := by
  obtain ⟨-, b1, b2, b3, b4, b5, b6, b7, b8⟩ := h
  intro a b ha hb
  have ca := hc (2 * a) (by omega)
  have cb := hc (2 * b) (by omega)
  cases hA : alk f e (2 * a) (2 * a + 1) with
  | true =>
    have da := b5 a ha hA
    cases hB : alk f e (2 * b) (2 * b + 1) with
    | true =>
      have db := b5 b hb hB
      rw [da, db, hr _ _ (by omega) (by omega), alk_s]
      constructor
      · intro h; exact ⟨h, alk_tr (alk_tr (alk_sy hA) h) hB⟩
      · intro h; exact h.1
    | false =>
      obtain ⟨i, i1, i2, i3, i4⟩ := b6 b hb hB
      constructor
      · intro h; omega
      · intro h
        have h2 := alk_s.mp h
        have := alk_tr (alk_tr (alk_sy h2.1) hA) h2.2
        rw [hB] at this; cases this
  | false =>
    obtain ⟨i, i1, i2, i3, i4⟩ := b6 a ha hA
    cases hB : alk f e (2 * b) (2 * b + 1) with
    | true =>
      have db := b5 b hb hB
      constructor
      · intro h; omega
      · intro h
        have h2 := alk_s.mp h
        have := alk_tr (alk_tr h2.1 hB) (alk_sy h2.2)
        rw [hA] at this; cases this
    | false =>
      obtain ⟨i', j1, j2, j3, j4⟩ := b6 b hb hB
      have ca' := hc (2 * a + 1) (by omega)
      have cb' := hc (2 * b + 1) (by omega)
      rw [alk_s, ← hr _ _ (by omega) (by omega), ← hr _ _ (by omega) (by omega)]
      constructor
      · intro h
        have hii : i = i' := by omega
        subst hii
        exact pr_inj (by omega) (by omega) (by omega) (by omega) (i4.symm.trans j4)
      · rintro ⟨h1, h2⟩
        have : i = i' := b8 i i' i1 i2 j1 j2 (by rw [i4, j4, h1, h2])
        omega
end
