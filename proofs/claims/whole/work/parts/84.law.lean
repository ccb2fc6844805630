/-! the law's loop over the calls -/
section
theorem inv0 : ∃ A r, Inv S0 A r := by
  refine ⟨(0, 0, fun _ => 0, fun _ => 0, fun _ => 0, fun _ => 0, fun _ => [], none), fun _ => 0, ?_, ?_, ?_, ?_, ?_⟩
  · refine ⟨Nat.zero_le _, Nat.zero_le _, fun i hi => absurd hi (Nat.not_lt_zero _), fun g hg => absurd hg (Nat.not_lt_zero _), fun g => ⟨List.nodup_nil, Nat.zero_le _⟩, fun g c hc => ?_, fun g h hh => ?_, fun t ht => ?_⟩
    · exact absurd hc (List.not_mem_nil)
    · exact absurd hh (List.not_mem_nil)
    · cases ht
  · refine ⟨by decide, fun i hi => absurd hi (Nat.not_lt_zero _), by decide, fun g hg => absurd hg (Nat.not_lt_zero _), fun g hg c hc => ⟨?_, ?_⟩, by decide, Or.inl (by decide), Or.inl (by decide)⟩
    · show bt 0 c = true ↔ c ∈ ([] : List Nat)
      rw [bt_0]; simp
    · show bt 0 c = true ↔ rc (fun _ => []) g c
      rw [bt_0]
      refine ⟨fun h => (by cases h), fun h => ?_⟩
      rcases rc_cases h with h | ⟨k, h, _⟩
      · exact absurd h (List.not_mem_nil)
      · exact absurd h (List.not_mem_nil)
  · refine ⟨by decide, fun i hi => absurd hi (Nat.not_lt_zero _), by decide, fun g hg => absurd hg (Nat.not_lt_zero _), fun g hg => ⟨rfl, fun j hj => absurd hj (Nat.not_lt_zero _)⟩, by decide⟩
  · intro h; exact absurd h (by decide)
  · intro h; exact absurd h (by decide)
variable {fu : Nat} {S S2 : Ws} {xs : Nat → Int32} {Ln : Nat}
theorem tl {k b : Int32} (K : List va_E → Option Unit) (hk : S2.1 59 0 = k) (h0 : k = 0 → S2.2.2 74 0 = b.toInt64) : ((hp_is (enc S2) 59 7).bind fun _ => ((f_M_thrown fu 59 (enc S2)).bind fun r3 => (if r3.1 = k then (if k = 0 then ((hp_rl r3.2 74 (0 : Int32)).bind fun y4 => (if (lg_cmp y4 b.toInt64) = 0 then K r3.2 else (if (0 : Int32) = 1 then some () else none))) else K r3.2) else (if (0 : Int32) = 1 then some () else none)))) = K (enc S2) := by
  simp only [is_59, f_M_thrown, gi_mco, Option.bind_some, hk, if_true]
  by_cases hk0 : k = 0
  · rw [if_pos hk0, rd_out0, Option.bind_some, if_pos (lg_0.mpr (h0 hk0))]
  · rw [if_neg hk0]
theorem tlL {k : Int32} {b : Int64} (K : List va_E → Option Unit) (hk : S2.1 59 0 = k) (h0 : k = 0 → S2.2.2 74 0 = b) : ((hp_is (enc S2) 59 7).bind fun _ => ((f_M_thrown fu 59 (enc S2)).bind fun r3 => (if r3.1 = k then (if k = 0 then ((hp_rl r3.2 74 (0 : Int32)).bind fun y4 => (if (lg_cmp y4 b) = 0 then K r3.2 else (if (0 : Int32) = 1 then some () else none))) else K r3.2) else (if (0 : Int32) = 1 then some () else none)))) = K (enc S2) := by
  simp only [is_59, f_M_thrown, gi_mco, Option.bind_some, hk, if_true]
  by_cases hk0 : k = 0
  · rw [if_pos hk0, rd_out0, Option.bind_some, if_pos (lg_0.mpr (h0 hk0))]
  · rw [if_neg hk0]
theorem lw_end {i : Nat} (hL : Ln ≤ 1536) (hi : i ≤ 1600) : ((Int32.ofNat Ln) - (3 : Int32)) < n32 i ↔ Ln < i + 3 := by
  show n32 Ln - 3 < n32 i ↔ _
  by_cases h3 : 3 ≤ Ln
  · rw [nl_sub h3, n32_lt (by omega) (by omega)]; omega
  · rw [Int32.lt_iff_toInt_lt, n32_toInt (show i < 2147483648 by omega)]
    rcases (show Ln = 0 ∨ Ln = 1 ∨ Ln = 2 by omega) with h | h | h
    · rw [h, show (n32 0 - 3 : Int32).toInt = -3 from by decide]; omega
    · rw [h, show (n32 1 - 3 : Int32).toInt = -2 from by decide]; omega
    · rw [h, show (n32 2 - 3 : Int32).toInt = -1 from by decide]; omega
set_option maxHeartbeats 4000000 in
theorem L_law (hL : Ln ≤ 1536) (hfu : 60000 ≤ fu) : ∀ (m nf i : Nat) (S : Ws), Ln ≤ i + 3 * m + 2 → i ≤ Ln + 3 → m < nf → (∃ A r, Inv S A r) → f_L_law_23 fu xs Ln nf 0 59 74 (n32 i) (enc S) = some ()
  | _, 0, _, _, _, _, h, _ => absurd h (by omega)
  | m, nf + 1, i, S, hm, hi, hn, hI => by
    have hend := lw_end (i := i) hL (by omega)
    rw [f_L_law_23]
    by_cases hx : Ln < i + 3
    · rw [if_pos (hend.mpr hx)]; rfl
    · rw [if_neg (fun q => hx (hend.mp q))]
      obtain ⟨m', rfl⟩ : ∃ m', m = m' + 1 := ⟨m - 1, by omega⟩
      obtain ⟨A, r, I⟩ := hI
      have k0 : ¬ (n32 i < 0 ∨ Ln ≤ (n32 i).toNatClampNeg) := n32_ok (by omega) (by omega)
      have k1 : ¬ (n32 i + (1 : Int32) < 0 ∨ Ln ≤ (n32 i + (1 : Int32)).toNatClampNeg) := by
        rw [nl_add]; exact n32_ok (by omega) (by omega)
      have k2 : ¬ (n32 i + (2 : Int32) < 0 ∨ Ln ≤ (n32 i + (2 : Int32)).toNatClampNeg) := by
        rw [nl_add]; exact n32_ok (by omega) (by omega)
      have ih : ∀ S2 : Ws, (∃ A r, Inv S2 A r) → f_L_law_23 fu xs Ln nf 0 59 74 (n32 i + (3 : Int32)) (enc S2) = some () := fun S2 h => by
        rw [nl_add]; exact L_law hL hfu m' nf (i + 3) S2 (by omega) (by omega) (by omega) h
      rw [if_pos k0]
      generalize xs (n32 i).toNatClampNeg &&& (15 : Int32) = x
      generalize xs (n32 i + (1 : Int32)).toNatClampNeg = v
      generalize xs (n32 i + (2 : Int32)).toNatClampNeg = u
      by_cases h0 : x = (0 : Int32)
      · rw [if_pos h0, if_pos k1]
        obtain ⟨k, S1, b, S2, e1, e2, e3, e4, e5⟩ := c_event (fu := fu) I v
        rw [e1, Option.bind_some, if_pos k1, is_59, Option.bind_some, e2, Option.bind_some]
        exact (tl (fu := fu) (fun w => f_L_law_165 fu xs Ln (f_L_law_23 fu xs Ln nf) 0 59 74 (n32 i) w) e3 e4).trans (ih S2 e5)
      rw [if_neg h0]
      clear h0
      by_cases h1 : x = (1 : Int32)
      · rw [if_pos h1, if_pos k1, if_pos k2]
        obtain ⟨k, S1, b, S2, e1, e2, e3, e4, e5⟩ := c_chance (fu := fu) I v u
        rw [e1, Option.bind_some, if_pos k1, if_pos k2, is_59, Option.bind_some, e2, Option.bind_some]
        exact (tl (fu := fu) (fun w => f_L_law_233 fu xs Ln (f_L_law_23 fu xs Ln nf) 0 59 74 (n32 i) w) e3 e4).trans (ih S2 e5)
      rw [if_neg h1]
      clear h1
      by_cases h2 : x = (2 : Int32)
      · rw [if_pos h2, if_pos k1, if_pos k2]
        obtain ⟨k, S1, b, S2, e1, e2, e3, e4, e5⟩ := c_hold (fu := fu) I v u
        rw [e1, Option.bind_some, if_pos k1, if_pos k2, is_59, Option.bind_some, e2, Option.bind_some]
        exact (tl (fu := fu) (fun w => f_L_law_301 fu xs Ln (f_L_law_23 fu xs Ln nf) 0 59 74 (n32 i) w) e3 e4).trans (ih S2 e5)
      rw [if_neg h2]
      clear h2
      by_cases h3 : x = (3 : Int32)
      · rw [if_pos h3, if_pos k1, if_pos k2]
        obtain ⟨k, S1, b, S2, e1, e2, e3, e4, e5⟩ := c_gate (fu := fu) I v u
        rw [e1, Option.bind_some, if_pos k1, if_pos k2, is_59, Option.bind_some, e2, Option.bind_some]
        exact (tl (fu := fu) (fun w => f_L_law_369 fu xs Ln (f_L_law_23 fu xs Ln nf) 0 59 74 (n32 i) w) e3 e4).trans (ih S2 e5)
      rw [if_neg h3]
      clear h3
      by_cases h4 : x = (4 : Int32)
      · rw [if_pos h4, if_pos k1, if_pos k2]
        obtain ⟨k, S1, b, S2, e1, e2, e3, e4, e5⟩ := c_input (fu := fu) I v u (by omega)
        rw [e1, Option.bind_some, if_pos k1, if_pos k2, is_59, Option.bind_some, e2, Option.bind_some]
        exact (tl (fu := fu) (fun w => f_L_law_437 fu xs Ln (f_L_law_23 fu xs Ln nf) 0 59 74 (n32 i) w) e3 e4).trans (ih S2 e5)
      rw [if_neg h4]
      clear h4
      by_cases h5 : x = (5 : Int32)
      · rw [if_pos h5, if_pos k1]
        obtain ⟨k, S1, S2, e1, e2, e3, e5⟩ := c_top (fu := fu) I v
        rw [e1, Option.bind_some, if_pos k1, is_59, Option.bind_some, e2, Option.bind_some]
        simp only [is_59, f_M_thrown, gi_mco, Option.bind_some, e3, if_true]
        exact ih S2 e5
      rw [if_neg h5]
      clear h5
      by_cases h6 : x = (6 : Int32)
      · rw [if_pos h6, if_pos k1]
        obtain ⟨k, S1, b, S2, e1, e2, e3, e4, e5⟩ := c_value (fu := fu) I v (by omega)
        rw [e1, Option.bind_some, if_pos k1, is_59, Option.bind_some, e2, Option.bind_some]
        simp only [is_59, f_M_thrown, gi_mco, Option.bind_some, e3, if_true]
        by_cases hk0 : k = 0
        · rw [if_pos hk0, rd_out0, Option.bind_some, e4 hk0]
          cases b
          · exact ih S2 e5
          · exact ih S2 e5
        · rw [if_neg hk0]; exact ih S2 e5
      rw [if_neg h6]
      clear h6
      by_cases h7 : x = (7 : Int32)
      · rw [if_pos h7]
        obtain ⟨k, S1, b, S2, e1, e2, e3, e4, e5⟩ := c_odds (fu := fu) I (by omega)
        rw [e1, Option.bind_some, is_59, Option.bind_some, e2, Option.bind_some]
        exact (tlL (fu := fu) (fun w => f_L_law_579 fu xs Ln (f_L_law_23 fu xs Ln nf) 0 59 74 (n32 i) w) e3 e4).trans (ih S2 e5)
      rw [if_neg h7]
      clear h7
      by_cases h8 : x = (8 : Int32)
      · rw [if_pos h8, if_pos k1]
        obtain ⟨k, S1, b, S2, e1, e2, e3, e4, e5⟩ := c_digit (fu := fu) I v (by omega)
        rw [e1, Option.bind_some, if_pos k1, is_59, Option.bind_some, e2, Option.bind_some]
        exact (tl (fu := fu) (fun w => f_L_law_635 fu xs Ln (f_L_law_23 fu xs Ln nf) 0 59 74 (n32 i) w) e3 e4).trans (ih S2 e5)
      rw [if_neg h8]
      clear h8
      by_cases h9 : x = (9 : Int32)
      · rw [if_pos h9, if_pos k1]
        obtain ⟨k, S1, b, S2, e1, e2, e3, e4, e5⟩ := c_weight (fu := fu) I v (by omega)
        rw [e1, Option.bind_some, if_pos k1, is_59, Option.bind_some, e2, Option.bind_some]
        exact (tlL (fu := fu) (fun w => f_L_law_690 fu xs Ln (f_L_law_23 fu xs Ln nf) 0 59 74 (n32 i) w) e3 e4).trans (ih S2 e5)
      rw [if_neg h9]
      clear h9
      by_cases h10 : x = (10 : Int32)
      · rw [if_pos h10]
        obtain ⟨k, S1, b, S2, e1, e2, e3, e4, e5⟩ := c_nodes (fu := fu) I (by omega)
        rw [e1, Option.bind_some, is_59, Option.bind_some, e2, Option.bind_some]
        exact (tl (fu := fu) (fun w => f_L_law_734 fu xs Ln (f_L_law_23 fu xs Ln nf) 0 59 74 (n32 i) w) e3 e4).trans (ih S2 e5)
      rw [if_neg h10]
      clear h10
      by_cases h11 : x = (11 : Int32)
      · rw [if_pos h11, if_pos k1]
        obtain ⟨k, S1, b, S2, e1, e2, e3, e4, e5⟩ := c_primes (fu := fu) I v hfu
        rw [e1, Option.bind_some, if_pos k1, is_59, Option.bind_some, e2, Option.bind_some]
        exact (tl (fu := fu) (fun w => f_L_law_790 fu xs Ln (f_L_law_23 fu xs Ln nf) 0 59 74 (n32 i) w) e3 e4).trans (ih S2 e5)
      rw [if_neg h11]
      clear h11
      by_cases h12 : x = (12 : Int32)
      · rw [if_pos h12, if_pos k1, if_pos k2]
        obtain ⟨k, S1, b, S2, e1, e2, e3, e4, e5⟩ := c_prime (fu := fu) I v u hfu
        rw [e1, Option.bind_some, if_pos k1, if_pos k2, is_59, Option.bind_some, e2, Option.bind_some]
        exact (tl (fu := fu) (fun w => f_L_law_858 fu xs Ln (f_L_law_23 fu xs Ln nf) 0 59 74 (n32 i) w) e3 e4).trans (ih S2 e5)
      rw [if_neg h12]
      clear h12
      by_cases h13 : x = (13 : Int32)
      · rw [if_pos h13, if_pos k1]
        obtain ⟨k, S1, b, S2, e1, e2, e3, e4, e5⟩ := c_share (fu := fu) I v hfu
        rw [e1, Option.bind_some, if_pos k1, is_59, Option.bind_some, e2, Option.bind_some]
        exact (tl (fu := fu) (fun w => f_L_law_914 fu xs Ln (f_L_law_23 fu xs Ln nf) 0 59 74 (n32 i) w) e3 e4).trans (ih S2 e5)
      rw [if_neg h13]
      clear h13
      by_cases h14 : x = (14 : Int32)
      · rw [if_pos h14]
        obtain ⟨k, S1, b, S2, e1, e2, e3, e4, e5⟩ := c_modules (fu := fu) I (by omega)
        rw [e1, Option.bind_some, is_59, Option.bind_some, e2, Option.bind_some]
        exact (tl (fu := fu) (fun w => f_L_law_958 fu xs Ln (f_L_law_23 fu xs Ln nf) 0 59 74 (n32 i) w) e3 e4).trans (ih S2 e5)
      rw [if_neg h14]
      clear h14
      exact ih S ⟨A, r, I⟩
end
