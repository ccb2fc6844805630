/-! Warshall's closure is what is below -/
def pw (X : Nat → List Nat) : Nat → Nat → Nat → Prop
  | 0, i, h => 16 + h ∈ X i
  | b + 1, i, h => pw X b i h ∨ (pw X b i b ∧ pw X b b h)
theorem pw_rc {X : Nat → List Nat} : ∀ (b i h : Nat), pw X b i h → rc X i (16 + h)
  | 0, _, _, hh => rc_kid hh
  | b + 1, i, h, Or.inl hh => pw_rc b i h hh
  | b + 1, i, h, Or.inr ⟨h1, h2⟩ => rc_tr (pw_rc b i b h1) (pw_rc b b h h2)
/-- a path whose inner gates are below b -/
def pb (X : Nat → List Nat) (b : Nat) : Nat → Nat → Nat → Prop
  | 0, i, h => 16 + h ∈ X i
  | n + 1, i, h => 16 + h ∈ X i ∨ ∃ m, m < b ∧ 16 + m ∈ X i ∧ pb X b n m h
theorem pb_split {X : Nat → List Nat} {b : Nat} : ∀ (n i h : Nat), pb X (b + 1) n i h → (∃ n, pb X b n i h) ∨ ((∃ n, pb X b n i b) ∧ ∃ n, pb X b n b h)
  | 0, _, _, hh => Or.inl ⟨0, hh⟩
  | n + 1, i, h, Or.inl hh => Or.inl ⟨0, hh⟩
  | n + 1, i, h, Or.inr ⟨m, hm, h1, h2⟩ => by
    have ih := pb_split n m h h2
    by_cases hb : m = b
    · subst hb
      rcases ih with ih | ⟨_, ih⟩
      · exact Or.inr ⟨⟨0, h1⟩, ih⟩
      · exact Or.inr ⟨⟨0, h1⟩, ih⟩
    · have hm' : m < b := by omega
      rcases ih with ⟨k, ih⟩ | ⟨⟨k, ih⟩, ih2⟩
      · exact Or.inl ⟨k + 1, Or.inr ⟨m, hm', h1, ih⟩⟩
      · exact Or.inr ⟨⟨k + 1, Or.inr ⟨m, hm', h1, ih⟩⟩, ih2⟩
theorem pb_pw {X : Nat → List Nat} : ∀ (b n i h : Nat), pb X b n i h → pw X b i h
  | 0, 0, _, _, hh => hh
  | 0, _ + 1, _, _, Or.inl hh => hh
  | 0, _ + 1, _, _, Or.inr ⟨m, hm, _⟩ => absurd hm (by omega)
  | b + 1, n, i, h, hh => by
    rcases pb_split n i h hh with ⟨k, h1⟩ | ⟨⟨k, h1⟩, ⟨l, h2⟩⟩
    · exact Or.inl (pb_pw b k i h h1)
    · exact Or.inr ⟨pb_pw b k i b h1, pb_pw b l b h h2⟩
theorem pw_iff {X : Nat → List Nat} {ng : Nat} (hX : ∀ g h, 16 + h ∈ X g → h < ng) (i h : Nat) : pw X ng i h ↔ rc X i (16 + h) := by
  constructor
  · exact pw_rc ng i h
  · rintro ⟨n, hn⟩
    refine pb_pw ng n i h ?_
    induction n generalizing i with
    | zero => exact hn
    | succ n ih =>
      rcases hn with hn | ⟨m, h1, h2⟩
      · exact Or.inl hn
      · exact Or.inr ⟨m, hX i m h1, h1, ih m h2⟩
/-- the square of booleans at place 66 -/
def BR (T : Ws) (P : Nat → Nat → Prop) : Prop := ∀ i, i < 12 → ∀ h, h < 12 → (T.2.1 66 (12 * i + h) = 0 ∨ T.2.1 66 (12 * i + h) = 1) ∧ (T.2.1 66 (12 * i + h) = 1 ↔ P i h)
theorem BR.im {T : Ws} {P Q : Nat → Nat → Prop} (h : BR T P) (e : ∀ i, i < 12 → ∀ h, h < 12 → (P i h ↔ Q i h)) : BR T Q := fun i hi k hk => ⟨(h i hi k hk).1, (h i hi k hk).2.trans (e i hi k hk)⟩
theorem BR.set {T : Ws} {P Q : Nat → Nat → Prop} {i0 h0 : Nat} {x : Int32} (H : BR T P) (hi : i0 < 12) (hh : h0 < 12) (hx : x = 0 ∨ x = 1) (h1 : x = 1 ↔ Q i0 h0) (h2 : ∀ i, i < 12 → ∀ h, h < 12 → ¬ (i = i0 ∧ h = h0) → (P i h ↔ Q i h)) : BR (sI T 66 (12 * i0 + h0) x) Q := by
  intro i hi' h hh'
  rw [sI2, if_pos rfl, upd_at]
  by_cases e : i = i0 ∧ h = h0
  · obtain ⟨rfl, rfl⟩ := e
    rw [if_pos rfl]; exact ⟨hx, h1⟩
  · rw [if_neg (by omega)]
    exact ⟨(H i hi' h hh').1, (H i hi' h hh').2.trans (h2 i hi' h hh' e)⟩
