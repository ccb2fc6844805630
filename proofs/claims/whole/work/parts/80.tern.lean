/-! the model's codes in threes: off, on, free -/
section
variable {fu : Nat} {S : Ws} {f : Nat → Bool} {n : Nat}
def tdg (c e : Nat) : Nat := c / 3 ^ e % 3
theorem tdg_0 (c : Nat) : tdg c 0 = c % 3 := by unfold tdg; rw [Nat.pow_zero, Nat.div_one]
theorem tdg_s (c e : Nat) : tdg c (e + 1) = tdg (c / 3) e := by unfold tdg; rw [Nat.div_div_eq_div_mul, Nat.pow_succ, Nat.mul_comm 3]
theorem tdg_lt (c e : Nat) : tdg c e < 3 := Nat.mod_lt _ (by omega)
def tbn (P : Nat → Bool) : Nat → Nat → Nat
  | 0, _ => 0
  | n + 1, c => (if P (c % 3) = true then 1 else 0) + 2 * tbn P n (c / 3)
theorem tbn_tb {P : Nat → Bool} : ∀ (n c e : Nat), (tbn P n c).testBit e = (decide (e < n) && P (tdg c e))
  | 0, c, e => by show Nat.testBit 0 e = _; rw [Nat.zero_testBit, decide_eq_false (by omega)]; rfl
  | n + 1, c, 0 => by
    show ((if P (c % 3) = true then 1 else 0) + 2 * tbn P n (c / 3)).testBit 0 = _
    rw [Nat.testBit_zero, tdg_0, decide_eq_true (show 0 < n + 1 by omega)]
    cases P (c % 3)
    · rw [if_neg (by decide), decide_eq_false (by omega)]; rfl
    · rw [if_pos rfl, decide_eq_true (by omega)]; rfl
  | n + 1, c, e + 1 => by
    show ((if P (c % 3) = true then 1 else 0) + 2 * tbn P n (c / 3)).testBit (e + 1) = _
    have hx : ((if P (c % 3) = true then 1 else 0) + 2 * tbn P n (c / 3)) / 2 = tbn P n (c / 3) := by
      cases P (c % 3)
      · rw [if_neg (by decide)]; omega
      · rw [if_pos rfl]; omega
    rw [Nat.testBit_succ, hx, tbn_tb n (c / 3) e, tdg_s]
    by_cases h : e < n
    · rw [decide_eq_true h, decide_eq_true (show e + 1 < n + 1 by omega)]
    · rw [decide_eq_false h, decide_eq_false (show ¬ e + 1 < n + 1 by omega)]
theorem tbn_lt {P : Nat → Bool} (n c : Nat) : tbn P n c < 2 ^ n := Nat.lt_pow_two_of_testBit _ (fun i hi => by rw [tbn_tb, decide_eq_false (by omega)]; rfl)
theorem tbn_uq {P : Nat → Bool} {c a : Nat} (ha : a < 2 ^ n) (h : ∀ e, e < n → a.testBit e = P (tdg c e)) : a = tbn P n c := Nat.eq_of_testBit_eq (fun i => by
  rw [tbn_tb]
  by_cases hi : i < n
  · rw [decide_eq_true hi, h i hi]; rfl
  · rw [decide_eq_false hi, Nat.testBit_lt_two_pow (Nat.lt_of_lt_of_le ha (Nat.pow_le_pow_right (by omega) (by omega)))]; rfl)
def KP (n c : Nat) : Nat := tbn (fun d => decide (d ≠ 2)) n c
def ON (n c : Nat) : Nat := tbn (fun d => decide (d = 1)) n c
def OF (n c : Nat) : Nat := tbn (fun d => decide (d = 0)) n c
theorem KP_tb (n c e : Nat) : (KP n c).testBit e = (decide (e < n) && decide (tdg c e ≠ 2)) := tbn_tb n c e
theorem ON_tb (n c e : Nat) : (ON n c).testBit e = (decide (e < n) && decide (tdg c e = 1)) := tbn_tb n c e
theorem OF_tb (n c e : Nat) : (OF n c).testBit e = (decide (e < n) && decide (tdg c e = 0)) := tbn_tb n c e
theorem ON_KP (n c e : Nat) (h : (ON n c).testBit e = true) : (KP n c).testBit e = true := by
  rw [ON_tb, Bool.and_eq_true] at h
  rw [KP_tb, h.1, decide_eq_true (by have := of_decide_eq_true h.2; omega)]; rfl
theorem OF_eq (n c : Nat) : OF n c = KP n c - ON n c := Nat.eq_of_testBit_eq (fun i => by
  rw [sub_bits i _ _ (ON_KP n c), OF_tb, KP_tb, ON_tb]
  have := tdg_lt c i
  by_cases hi : i < n
  · rw [decide_eq_true hi]
    rcases (show tdg c i = 0 ∨ tdg c i = 1 ∨ tdg c i = 2 by omega) with h | h | h <;> rw [h] <;> rfl
  · rw [decide_eq_false hi]; rfl)
/-- the code of a term -/
def tcd : Nat → Nat → Nat → Nat
  | 0, _, _ => 0
  | n + 1, k, o => (if k % 2 = 0 then 2 else o % 2) + 3 * tcd n (k / 2) (o / 2)
theorem tcd_lt : ∀ (n k o : Nat), tcd n k o < 3 ^ n
  | 0, _, _ => by show 0 < 1; decide
  | n + 1, k, o => by
    have := tcd_lt n (k / 2) (o / 2)
    show (if k % 2 = 0 then 2 else o % 2) + 3 * tcd n (k / 2) (o / 2) < 3 ^ (n + 1)
    rw [Nat.pow_succ]
    split <;> omega
theorem tcd_dg : ∀ (n k o e : Nat), e < n → tdg (tcd n k o) e = if k.testBit e = true then (if o.testBit e = true then 1 else 0) else 2
  | 0, _, _, _, h => absurd h (by omega)
  | n + 1, k, o, 0, _ => by
    rw [tdg_0, Nat.testBit_zero, Nat.testBit_zero]
    show ((if k % 2 = 0 then 2 else o % 2) + 3 * tcd n (k / 2) (o / 2)) % 3 = _
    by_cases hk : k % 2 = 0
    · rw [if_pos hk, decide_eq_false (by omega), if_neg (by decide)]; omega
    · rw [if_neg hk, decide_eq_true (by omega), if_pos rfl]
      by_cases ho : o % 2 = 1
      · rw [decide_eq_true ho, if_pos rfl]; omega
      · rw [decide_eq_false ho, if_neg (by decide)]; omega
  | n + 1, k, o, e + 1, h => by
    rw [tdg_s, Nat.testBit_succ, Nat.testBit_succ]
    have hx : tcd (n + 1) k o / 3 = tcd n (k / 2) (o / 2) := by
      show ((if k % 2 = 0 then 2 else o % 2) + 3 * tcd n (k / 2) (o / 2)) / 3 = _
      split <;> omega
    rw [hx]
    exact tcd_dg n (k / 2) (o / 2) e (by omega)
theorem tcd_KP {k o : Nat} (hk : k < 2 ^ n) : KP n (tcd n k o) = k := (tbn_uq hk (fun e he => by
  rw [tcd_dg n k o e he]
  cases k.testBit e
  · rfl
  · cases o.testBit e <;> rfl)).symm
theorem tcd_ON {k o : Nat} (hk : k < 2 ^ n) (ho : ∀ e, o.testBit e = true → k.testBit e = true) : ON n (tcd n k o) = o := (tbn_uq (Nat.lt_of_le_of_lt (sub_le ho) hk) (fun e he => by
  rw [tcd_dg n k o e he]
  have := ho e
  cases hoe : o.testBit e
  · cases k.testBit e <;> rfl
  · rw [this hoe]; rfl)).symm
theorem dm {x P b : Nat} (hb : b < P) : (x * P + b) / P = x ∧ (x * P + b) % P = b := by
  rw [Nat.mul_comm, Nat.mul_add_div (by omega), Nat.div_eq_of_lt hb, Nat.mul_add_mod, Nat.mod_eq_of_lt hb]
  exact ⟨rfl, rfl⟩
theorem tdg_m : ∀ (e x b j : Nat), b < 3 ^ e → tdg (x * 3 ^ e + b) j = if j < e then tdg b j else tdg x (j - e)
  | 0, x, b, j, hb => by
    rw [Nat.pow_zero] at hb ⊢
    rw [Nat.mul_one, show b = 0 by omega, Nat.add_zero, if_neg (by omega), Nat.sub_zero]
  | e + 1, x, b, 0, hb => by
    rw [tdg_0, if_pos (by omega), tdg_0, Nat.pow_succ, ← Nat.mul_assoc]
    generalize x * 3 ^ e = y
    omega
  | e + 1, x, b, j + 1, hb => by
    have hx : (x * 3 ^ (e + 1) + b) / 3 = x * 3 ^ e + b / 3 := by
      rw [Nat.pow_succ, ← Nat.mul_assoc]
      generalize x * 3 ^ e = y
      omega
    rw [Nat.pow_succ] at hb
    rw [tdg_s, hx, tdg_m e x (b / 3) j (by omega), tdg_s]
    by_cases h : j < e
    · rw [if_pos h, if_pos (show j + 1 < e + 1 by omega)]
    · rw [if_neg h, if_neg (show ¬ j + 1 < e + 1 by omega), show j + 1 - (e + 1) = j - e from by omega]
/-- a code with another digit at e -/
theorem tdg_ch {c x' e : Nat} (h : x' / 3 = c / 3 ^ e / 3) : (∀ j, j ≠ e → tdg (x' * 3 ^ e + c % 3 ^ e) j = tdg c j) ∧ tdg (x' * 3 ^ e + c % 3 ^ e) e = x' % 3 := by
  have hP : 0 < 3 ^ e := Nat.pos_of_ne_zero (by simp)
  have hb := Nat.mod_lt c hP
  have hc : tdg c = tdg (c / 3 ^ e * 3 ^ e + c % 3 ^ e) := by rw [Nat.mul_comm, Nat.div_add_mod]
  refine ⟨fun j hj => ?_, ?_⟩
  · rw [tdg_m e _ _ j hb, hc, tdg_m e _ _ j hb]
    by_cases hje : j < e
    · rw [if_pos hje, if_pos hje]
    · rw [if_neg hje, if_neg hje]
      obtain ⟨i, hi⟩ : ∃ i, j - e = i + 1 := ⟨j - e - 1, by omega⟩
      rw [hi, tdg_s, tdg_s, h]
  · rw [tdg_m e _ _ e hb, if_neg (by omega), Nat.sub_self, tdg_0]
/-- all settings of a code cause the top -/
def cauC (f : Nat → Bool) (n c : Nat) : Prop := ∀ s, s < 2 ^ n → (∀ e, e < n → tdg c e ≠ 2 → s.testBit e = decide (tdg c e = 1)) → f s = true
theorem cauC_cau {c : Nat} : cauC f n c ↔ cau f n (KP n c) (ON n c) := by
  constructor
  · intro h s hs ha
    refine h s hs (fun e he h2 => ?_)
    have := ha e he (by rw [KP_tb, decide_eq_true he, decide_eq_true h2]; rfl)
    rw [ON_tb, decide_eq_true he] at this; exact this
  · intro h s hs ha
    refine h s hs (fun e he hk => ?_)
    rw [KP_tb, decide_eq_true he] at hk
    rw [ON_tb, decide_eq_true he]
    exact ha e he (of_decide_eq_true hk)
theorem cauC_free {c c1 c0 e : Nat} (he : e < n) (h2 : tdg c e = 2) (h1 : tdg c1 e = 1) (h0 : tdg c0 e = 0) (g1 : ∀ j, j ≠ e → tdg c1 j = tdg c j) (g0 : ∀ j, j ≠ e → tdg c0 j = tdg c j) : cauC f n c ↔ (cauC f n c1 ∧ cauC f n c0) := by
  constructor
  · intro h
    refine ⟨fun s hs ha => h s hs (fun j hj hd => ?_), fun s hs ha => h s hs (fun j hj hd => ?_)⟩
    · have hje : j ≠ e := fun q => hd (q ▸ h2)
      have := ha j hj (by rw [g1 j hje]; exact hd)
      rw [g1 j hje] at this; exact this
    · have hje : j ≠ e := fun q => hd (q ▸ h2)
      have := ha j hj (by rw [g0 j hje]; exact hd)
      rw [g0 j hje] at this; exact this
  · rintro ⟨q1, q0⟩ s hs ha
    cases hb : s.testBit e with
    | true =>
      refine q1 s hs (fun j hj hd => ?_)
      by_cases hje : j = e
      · rw [hje, hb, h1]; rfl
      · rw [g1 j hje] at hd ⊢; exact ha j hj hd
    | false =>
      refine q0 s hs (fun j hj hd => ?_)
      by_cases hje : j = e
      · rw [hje, hb, h0]; rfl
      · rw [g0 j hje] at hd ⊢; exact ha j hj hd
/-- the code with e set free -/
def frC (c e : Nat) : Nat := c + (2 - tdg c e) * 3 ^ e
theorem frC_eq (c e : Nat) : frC c e = (c / 3 ^ e + (2 - tdg c e)) * 3 ^ e + c % 3 ^ e := by
  unfold frC
  have := Nat.div_add_mod c (3 ^ e)
  rw [Nat.mul_comm] at this
  rw [Nat.add_mul]
  generalize (2 - tdg c e) * 3 ^ e = y
  omega
theorem frC_dg (c e : Nat) : (∀ j, j ≠ e → tdg (frC c e) j = tdg c j) ∧ tdg (frC c e) e = 2 := by
  have h3 := tdg_lt c e
  have hx : (c / 3 ^ e + (2 - tdg c e)) / 3 = c / 3 ^ e / 3 ∧ (c / 3 ^ e + (2 - tdg c e)) % 3 = 2 := by
    unfold tdg; omega
  have := tdg_ch (c := c) (x' := c / 3 ^ e + (2 - tdg c e)) (e := e) hx.1
  rw [← frC_eq, hx.2] at this; exact this
theorem frC_lt {c e : Nat} (hc : c < 3 ^ n) (he : e < n) : frC c e < 3 ^ n := by
  have hP : 0 < 3 ^ e := Nat.pos_of_ne_zero (by simp)
  have hb := Nat.mod_lt c hP
  have hq : c / 3 ^ e < 3 ^ (n - e) := (Nat.div_lt_iff_lt_mul hP).mpr (by rw [← Nat.pow_add, show n - e + e = n from by omega]; exact hc)
  obtain ⟨k, hk⟩ : ∃ k, n - e = k + 1 := ⟨n - e - 1, by omega⟩
  have h3 : 3 ^ (n - e) = 3 * 3 ^ k := by rw [hk, Nat.pow_succ, Nat.mul_comm]
  have hx : c / 3 ^ e + (2 - tdg c e) + 1 ≤ 3 ^ (n - e) := by unfold tdg; omega
  have := Nat.mul_le_mul_right (3 ^ e) hx
  rw [← Nat.pow_add, show n - e + e = n from by omega, Nat.add_mul, Nat.one_mul] at this
  rw [frC_eq]; omega
theorem isPrC {c : Nat} : isPr f n (KP n c) (ON n c) ↔ (cauC f n c ∧ ∀ e, e < n → tdg c e ≠ 2 → ¬ cauC f n (frC c e)) := by
  have key : ∀ e, e < n → tdg c e ≠ 2 → (cau f n (KP n c - 2 ^ e) (ON n c) ↔ cauC f n (frC c e)) := fun e he h2 => by
    have hk : (KP n c).testBit e = true := by rw [KP_tb, decide_eq_true he, decide_eq_true h2]; rfl
    obtain ⟨g1, g2⟩ := frC_dg c e
    constructor
    · intro h s hs ha
      refine h s hs (fun j hj hb => ?_)
      rw [sub_tb hk, Bool.and_eq_true, KP_tb, decide_eq_true hj] at hb
      have hje : j ≠ e := fun q => by rw [q, decide_eq_true rfl] at hb; exact absurd hb.2 (by decide)
      have hd : tdg c j ≠ 2 := of_decide_eq_true hb.1
      have := ha j hj (by rw [g1 j hje]; exact hd)
      rw [g1 j hje] at this
      rw [ON_tb, decide_eq_true hj]; exact this
    · intro h s hs ha
      refine h s hs (fun j hj hd => ?_)
      have hje : j ≠ e := fun q => by rw [q] at hd; exact hd g2
      rw [g1 j hje] at hd ⊢
      have := ha j hj (by rw [sub_tb hk, KP_tb, decide_eq_true hj, decide_eq_true hd, decide_eq_false (fun q => hje q.symm)]; rfl)
      rw [ON_tb, decide_eq_true hj] at this; exact this
  constructor
  · intro h
    refine ⟨cauC_cau.mpr h.2.2.1, fun e he h2 hc => h.2.2.2 e he ?_ ((key e he h2).mpr hc)⟩
    rw [KP_tb, decide_eq_true he, decide_eq_true h2]; rfl
  · rintro ⟨h1, h2⟩
    refine ⟨tbn_lt n c, ON_KP n c, cauC_cau.mp h1, fun e he hk hc => ?_⟩
    have hd : tdg c e ≠ 2 := by
      rw [KP_tb, decide_eq_true he] at hk; exact of_decide_eq_true hk
    exact h2 e he hd ((key e he hd).mp hc)
theorem code_inj {c c' : Nat} (hc : c < 3 ^ n) (hc' : c' < 3 ^ n) (h1 : KP n c = KP n c') (h2 : ON n c = ON n c') : c = c' := by
  have hd : ∀ e, e < n → tdg c e = tdg c' e := fun e he => by
    have k1 := KP_tb n c e
    have k2 := KP_tb n c' e
    have o1 := ON_tb n c e
    have o2 := ON_tb n c' e
    rw [h1, k2] at k1
    rw [h2, o2] at o1
    rw [decide_eq_true he] at k1 o1
    have l1 := tdg_lt c e
    have l2 := tdg_lt c' e
    have k3 : (tdg c' e = 2) ↔ (tdg c e = 2) := by simpa using k1
    have o3 : (tdg c' e = 1) ↔ (tdg c e = 1) := by simpa using o1
    omega
  have gen : ∀ (n c c' : Nat), c < 3 ^ n → c' < 3 ^ n → (∀ e, e < n → tdg c e = tdg c' e) → c = c' := by
    intro n
    induction n with
    | zero => intro c c' h1 h2 _; rw [Nat.pow_zero] at h1 h2; omega
    | succ n ih =>
      intro c c' h1 h2 h
      have h0 := h 0 (by omega)
      rw [tdg_0, tdg_0] at h0
      rw [Nat.pow_succ] at h1 h2
      have := ih (c / 3) (c' / 3) (by omega) (by omega) (fun e he => by
        have := h (e + 1) (by omega)
        rw [tdg_s, tdg_s] at this; exact this)
      omega
  exact gen n c c' hc hc' hd
end
