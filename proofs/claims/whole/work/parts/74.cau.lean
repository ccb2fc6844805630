/-! what causes the top; the tree of kept events -/
section
variable {f : Nat → Bool} {n : Nat}
theorem sub_bits : ∀ (j k o : Nat), (∀ e, o.testBit e = true → k.testBit e = true) → (k - o).testBit j = (k.testBit j && !o.testBit j)
  | 0, k, o, h => by
    have h0 := h 0
    simp only [Nat.testBit_zero, decide_eq_true_eq] at h0 ⊢
    by_cases hk : k % 2 = 1
    · by_cases ho : o % 2 = 1
      · rw [decide_eq_true hk, decide_eq_true ho, decide_eq_false (show ¬ (k - o) % 2 = 1 by omega)]; rfl
      · rw [decide_eq_true hk, decide_eq_false ho]
        by_cases hle : o ≤ k
        · rw [decide_eq_true (by omega)]; rfl
        · exfalso
          have : o ≤ k := by
            have e : o = o &&& k := Nat.eq_of_testBit_eq (fun i => by
              rw [Nat.testBit_and]
              cases hi : o.testBit i with
              | false => rfl
              | true => rw [h i hi]; rfl)
            rw [e]; exact Nat.and_le_right
          exact hle this
    · have ho : ¬ o % 2 = 1 := fun q => hk (h0 q)
      rw [decide_eq_false hk, decide_eq_false (by omega)]; rfl
  | j + 1, k, o, h => by
    have h0 := h 0
    simp only [Nat.testBit_zero, decide_eq_true_eq] at h0
    rw [Nat.testBit_succ, Nat.testBit_succ, Nat.testBit_succ, show (k - o) / 2 = k / 2 - o / 2 from by omega]
    exact sub_bits j (k / 2) (o / 2) (fun e he => by
      have := h (e + 1)
      rw [Nat.testBit_succ, Nat.testBit_succ] at this
      exact this he)
theorem sub_le {k o : Nat} (h : ∀ e, o.testBit e = true → k.testBit e = true) : o ≤ k := by
  have e : o = o &&& k := Nat.eq_of_testBit_eq (fun i => by
    rw [Nat.testBit_and]
    cases hi : o.testBit i with
    | false => rfl
    | true => rw [h i hi]; rfl)
  rw [e]; exact Nat.and_le_right
theorem sub_tb {K e : Nat} (h : K.testBit e = true) (j : Nat) : (K - 2 ^ e).testBit j = (K.testBit j && !decide (e = j)) := by
  rw [sub_bits j K (2 ^ e) (fun i hi => by
    rw [Nat.testBit_two_pow] at hi
    have := of_decide_eq_true hi
    rw [← this]; exact h), Nat.testBit_two_pow]
theorem xor_tb (s e j : Nat) : (s ^^^ 2 ^ e).testBit j = (s.testBit j ^^ decide (e = j)) := by rw [Nat.testBit_xor, Nat.testBit_two_pow]
theorem cau_mono {K K' s : Nat} (h : ∀ e, e < n → K.testBit e = true → K'.testBit e = true) (H : cau f n K s) : cau f n K' s := fun s' hs ha => H s' hs (fun e he hk => ha e he (h e he hk))
theorem cau_cong {K s s' : Nat} (h : ∀ e, e < n → K.testBit e = true → s.testBit e = s'.testBit e) (H : cau f n K s) : cau f n K s' := fun x hx ha => H x hx (fun e he hk => (ha e he hk).trans (h e he hk).symm)
theorem cau_drop {K e s : Nat} (hK : K.testBit e = true) : cau f n (K - 2 ^ e) s ↔ (cau f n K s ∧ cau f n K (s ^^^ 2 ^ e)) := by
  constructor
  · intro h
    have hm : ∀ j, j < n → (K - 2 ^ e).testBit j = true → K.testBit j = true := fun j hj hb => by
      rw [sub_tb hK, Bool.and_eq_true] at hb; exact hb.1
    refine ⟨cau_mono hm h, fun x hx ha => h x hx (fun j hj hb => ?_)⟩
    rw [ha j hj (hm j hj hb), xor_tb]
    rw [sub_tb hK, Bool.and_eq_true] at hb
    have : decide (e = j) = false := by simpa using hb.2
    rw [this, Bool.xor_false]
  · rintro ⟨h1, h2⟩ x hx ha
    by_cases hb : x.testBit e = s.testBit e
    · refine h1 x hx (fun j hj hk => ?_)
      by_cases hje : e = j
      · subst hje; exact hb
      · exact ha j hj (by rw [sub_tb hK, hk, decide_eq_false hje]; rfl)
    · refine h2 x hx (fun j hj hk => ?_)
      rw [xor_tb]
      by_cases hje : e = j
      · subst hje
        rw [decide_eq_true rfl]
        cases hx1 : x.testBit e <;> cases hs1 : s.testBit e <;> rw [hx1, hs1] at hb <;> simp at hb ⊢
      · rw [decide_eq_false hje, Bool.xor_false]
        exact ha j hj (by rw [sub_tb hK, hk, decide_eq_false hje]; rfl)
theorem cau_full (hf : ∀ s, f (s % 2 ^ n) = f s) {s : Nat} : cau f n (2 ^ n - 1) s ↔ f s = true := by
  constructor
  · intro h
    rw [← hf s]
    exact h (s % 2 ^ n) (Nat.mod_lt _ (Nat.two_pow_pos _)) (fun e he _ => by rw [Nat.testBit_mod_two_pow, decide_eq_true he]; rfl)
  · intro h x hx ha
    have : x = s % 2 ^ n := Nat.eq_of_testBit_eq (fun i => by
      rw [Nat.testBit_mod_two_pow]
      by_cases hi : i < n
      · rw [decide_eq_true hi, ha i hi (by rw [Nat.testBit_two_pow_sub_one, decide_eq_true hi])]; rfl
      · rw [decide_eq_false hi, Nat.testBit_lt_two_pow (Nat.lt_of_lt_of_le hx (Nat.pow_le_pow_right (by omega) (by omega)))]; rfl)
    rw [this, hf]; exact h
/-- what a level holds: events below d are undecided, q are the kept ones above -/
def lvK (d q : Nat) : Nat := q * 2 ^ d + (2 ^ d - 1)
theorem lvK_tb (d q j : Nat) : (lvK d q).testBit j = if j < d then true else q.testBit (j - d) := by
  unfold lvK
  rw [tb_m (by have := Nat.two_pow_pos d; omega)]
  by_cases h : j < d
  · rw [if_pos h, if_pos h, Nat.testBit_two_pow_sub_one, decide_eq_true h]
  · rw [if_neg h, if_neg h]
theorem lvK_keep (d q : Nat) : lvK d (2 * q + 1) = lvK (d + 1) q := by
  unfold lvK
  rw [pw3, Nat.pow_succ]
  have := Nat.two_pow_pos d
  congr 1; omega
theorem lvK_leave (d q : Nat) : lvK d (2 * q) = lvK (d + 1) q - 2 ^ d := by
  unfold lvK
  rw [pw2, Nat.pow_succ]
  have := Nat.two_pow_pos d
  generalize q * (2 ^ d * 2) = x
  omega
theorem lvK_d (d q : Nat) : (lvK (d + 1) q).testBit d = true := by rw [lvK_tb, if_pos (by omega)]
theorem lv_leave {d q s : Nat} : cau f n (lvK d (2 * q)) s ↔ (cau f n (lvK (d + 1) q) s ∧ cau f n (lvK (d + 1) q) (s ^^^ 2 ^ d)) := by
  rw [lvK_leave]; exact cau_drop (lvK_d d q)
/-- the prime terms whose kept events above d are q -/
def SubK (f : Nat → Bool) (n d q k : Nat) : Prop := ∃ kept on, isPr f n kept on ∧ k = keyN kept on ∧ kept / 2 ^ d = q
theorem SubK_s {d q k : Nat} : SubK f n (d + 1) q k ↔ (SubK f n d (2 * q) k ∨ SubK f n d (2 * q + 1) k) := by
  constructor
  · rintro ⟨kept, on, h1, h2, h3⟩
    rw [Nat.pow_succ, ← Nat.div_div_eq_div_mul] at h3
    rcases (show kept / 2 ^ d = 2 * q ∨ kept / 2 ^ d = 2 * q + 1 by omega) with h | h
    · exact Or.inl ⟨kept, on, h1, h2, h⟩
    · exact Or.inr ⟨kept, on, h1, h2, h⟩
  · rintro (⟨kept, on, h1, h2, h3⟩ | ⟨kept, on, h1, h2, h3⟩)
    · exact ⟨kept, on, h1, h2, by rw [Nat.pow_succ, ← Nat.div_div_eq_div_mul]; omega⟩
    · exact ⟨kept, on, h1, h2, by rw [Nat.pow_succ, ← Nat.div_div_eq_div_mul]; omega⟩
theorem isPr.lt {kept on : Nat} (h : isPr f n kept on) : on < 2 ^ n := Nat.lt_of_le_of_lt (sub_le h.2.1) h.1
theorem kept_lv {d q kept e : Nat} (h : kept / 2 ^ d = q) (hk : kept.testBit e = true) : (lvK d q).testBit e = true := by
  rw [lvK_tb]
  by_cases he : e < d
  · rw [if_pos he]
  · rw [if_neg he, ← h, Nat.testBit_div_two_pow, show e - d + d = e from by omega]; exact hk
theorem SubK_any {d q k : Nat} (h : ∀ s, s < 2 ^ n → ¬ cau f n (lvK d q) s) : ¬ SubK f n d q k := by
  rintro ⟨kept, on, h1, h2, h3⟩
  exact h on h1.lt (cau_mono (fun e _ hk => kept_lv h3 hk) h1.2.2.1)
theorem SubK_lost {d q k : Nat} (hd : d < n) (h : ∀ s, s < 2 ^ n → cau f n (lvK (d + 1) q) s → cau f n (lvK d (2 * q)) s) : ¬ SubK f n d (2 * q + 1) k := by
  rintro ⟨kept, on, h1, h2, h3⟩
  have hb : kept.testBit d = true := by rw [Nat.testBit_eq_decide_div_mod_eq, h3]; simp
  refine h1.2.2.2 d hd hb (cau_drop hb |>.mpr ⟨h1.2.2.1, fun x hx ha => ?_⟩)
  have hu : x ^^^ 2 ^ d < 2 ^ n := Nat.xor_lt_two_pow hx (Nat.pow_lt_pow_right (by omega) hd)
  have hkK : ∀ e, kept.testBit e = true → (lvK (d + 1) q).testBit e = true := fun e hk => by
    rw [← lvK_keep]; exact kept_lv h3 hk
  have hagr : ∀ e, e < n → kept.testBit e = true → (x ^^^ 2 ^ d).testBit e = on.testBit e := fun e he hk => by
    have := ha e he hk
    rw [xor_tb] at this ⊢
    rw [this]
    cases on.testBit e <;> cases decide (d = e) <;> rfl
  have hc : cau f n (lvK (d + 1) q) (x ^^^ 2 ^ d) := fun y hy hya => h1.2.2.1 y hy (fun e he hk => (hya e he (hkK e hk)).trans (hagr e he hk))
  have h5 := lv_leave.mp (h _ hu hc)
  refine h5.2 x hx (fun e he hk => ?_)
  rw [xor_tb, xor_tb]
  cases x.testBit e <;> cases decide (d = e) <;> rfl
theorem SubK_0 {q k : Nat} : SubK f n 0 q k ↔ ∃ on, isPr f n q on ∧ k = keyN q on := by
  constructor
  · rintro ⟨kept, on, h1, h2, h3⟩
    rw [Nat.pow_zero, Nat.div_one] at h3
    subst h3; exact ⟨on, h1, h2⟩
  · rintro ⟨on, h1, h2⟩; exact ⟨q, on, h1, h2, by rw [Nat.pow_zero, Nat.div_one]⟩
theorem pc_le (k : Nat) : pc k ≤ 10 := by
  have : (List.range 10).countP (fun e => k.testBit e) ≤ (List.range 10).length := List.countP_le_length
  rw [List.length_range] at this; exact this
theorem keyN_inj {kept on kept' on' : Nat} (h1 : kept < 1024) (h2 : on ≤ kept) (h3 : kept' < 1024) (h4 : on' ≤ kept') (h : keyN kept on = keyN kept' on') : kept = kept' ∧ on = on' := by
  unfold keyN at h
  have ha : kept - on < 1024 := by omega
  have ha' : kept' - on' < 1024 := by omega
  have hb : on < 1024 := by omega
  have hb' : on' < 1024 := by omega
  have key : ∀ p o a : Nat, o < 1024 → a < 1024 → (p * 1048576 + o * 1024 + a) % 1024 = a ∧ (p * 1048576 + o * 1024 + a) / 1024 % 1024 = o := fun p o a h1 h2 => by omega
  obtain ⟨q1, q2⟩ := key (pc kept) on (kept - on) hb ha
  obtain ⟨q3, q4⟩ := key (pc kept') on' (kept' - on') hb' ha'
  rw [h] at q1 q2
  have e1 : kept - on = kept' - on' := q1.symm.trans q3
  have e2 : on = on' := q2.symm.trans q4
  omega
theorem SubK_dj {d q q' k : Nat} (hn : n ≤ 10) (hq : q ≠ q') (h : SubK f n d q k) : ¬ SubK f n d q' k := by
  rintro ⟨kept', on', g1, g2, g3⟩
  obtain ⟨kept, on, h1, h2, h3⟩ := h
  have hp := p10 hn
  have := keyN_inj (Nat.lt_of_lt_of_le h1.1 hp) (sub_le h1.2.1) (Nat.lt_of_lt_of_le g1.1 hp) (sub_le g1.2.1) (h2.symm.trans g2)
  rw [this.1] at h3
  exact hq (h3.symm.trans g3)
end
