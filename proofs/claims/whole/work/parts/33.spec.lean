/-! the mathematical state: events, gates, children in their order, the top; what lies below; what fails -/
abbrev Ab : Type := Nat × Nat × (Nat → Nat) × (Nat → Nat) × (Nat → Nat) × (Nat → Nat) × (Nat → List Nat) × Option Nat
abbrev aE (A : Ab) : Nat := A.1
abbrev aG (A : Ab) : Nat := A.2.1
abbrev aC (A : Ab) : Nat → Nat := A.2.2.1
abbrev aH (A : Ab) : Nat → Nat := A.2.2.2.1
abbrev aK (A : Ab) : Nat → Nat := A.2.2.2.2.1
abbrev aV (A : Ab) : Nat → Nat := A.2.2.2.2.2.1
abbrev aX (A : Ab) : Nat → List Nat := A.2.2.2.2.2.2.1
abbrev aT (A : Ab) : Option Nat := A.2.2.2.2.2.2.2
/-- reached within n steps -/
def rcN (X : Nat → List Nat) : Nat → Nat → Nat → Prop
  | 0, g, c => c ∈ X g
  | n + 1, g, c => c ∈ X g ∨ ∃ h, 16 + h ∈ X g ∧ rcN X n h c
def rc (X : Nat → List Nat) (g c : Nat) : Prop := ∃ n, rcN X n g c
theorem rcN_up {X : Nat → List Nat} : ∀ {n : Nat} {g c : Nat}, rcN X n g c → rcN X (n + 1) g c
  | 0, _, _, h => Or.inl h
  | _ + 1, _, _, Or.inl h => Or.inl h
  | _ + 1, _, _, Or.inr ⟨k, h1, h2⟩ => Or.inr ⟨k, h1, rcN_up h2⟩
theorem rc_kid {X : Nat → List Nat} {g c : Nat} (h : c ∈ X g) : rc X g c := ⟨0, h⟩
theorem rc_step {X : Nat → List Nat} {g h c : Nat} (h1 : 16 + h ∈ X g) (h2 : rc X h c) : rc X g c := by
  obtain ⟨n, hn⟩ := h2; exact ⟨n + 1, Or.inr ⟨h, h1, hn⟩⟩
theorem rc_cases {X : Nat → List Nat} {g c : Nat} (h : rc X g c) : c ∈ X g ∨ ∃ k, 16 + k ∈ X g ∧ rc X k c := by
  obtain ⟨n, hn⟩ := h
  cases n with
  | zero => exact Or.inl hn
  | succ n => rcases hn with hn | ⟨k, h1, h2⟩
              · exact Or.inl hn
              · exact Or.inr ⟨k, h1, n, h2⟩
theorem rc_tr {X : Nat → List Nat} {g h c : Nat} (h1 : rc X g (16 + h)) (h2 : rc X h c) : rc X g c := by
  obtain ⟨n, hn⟩ := h1
  induction n generalizing g with
  | zero => exact rc_step hn h2
  | succ n ih =>
    rcases hn with hn | ⟨k, h3, h4⟩
    · exact rc_step hn h2
    · exact rc_step h3 (ih h4)
theorem rc_ind {X : Nat → List Nat} {P : Nat → Nat → Prop} (h0 : ∀ g c, c ∈ X g → P g c) (h1 : ∀ g h c, 16 + h ∈ X g → rc X h c → P h c → P g c) {g c : Nat} (h : rc X g c) : P g c := by
  obtain ⟨n, hn⟩ := h
  induction n generalizing g with
  | zero => exact h0 g c hn
  | succ n ih =>
    rcases hn with hn | ⟨k, h3, h4⟩
    · exact h0 g c hn
    · exact h1 g k c h3 ⟨n, h4⟩ (ih h4)
/-- a rank that falls from a gate to each gate among its children -/
def Rk (X : Nat → List Nat) (r : Nat → Nat) : Prop := ∀ g h, 16 + h ∈ X g → r h < r g
theorem Rk.rc {X : Nat → List Nat} {r : Nat → Nat} (H : Rk X r) {g h : Nat} (h1 : rc X g (16 + h)) : r h < r g := by
  refine rc_ind (P := fun g c => ∀ h, c = 16 + h → r h < r g) ?_ ?_ h1 h rfl
  · intro g c hc h e; subst e; exact H g h hc
  · intro g k c hk _ ih h e; exact Nat.lt_trans (ih h e) (H g k hk)
/-- a new child -/
def adX (X : Nat → List Nat) (g c : Nat) : Nat → List Nat := fun x => if x = g then X g ++ [c] else X x
theorem adX_mem {X : Nat → List Nat} {g c x y : Nat} : y ∈ adX X g c x ↔ y ∈ X x ∨ (x = g ∧ y = c) := by
  unfold adX
  by_cases h : x = g
  · subst h; simp
  · simp [h]
/-- what is c itself or below it -/
def wb (X : Nat → List Nat) (c y : Nat) : Prop := y = c ∨ ∃ h, c = 16 + h ∧ rc X h y
theorem adX_rc {X : Nat → List Nat} {g c x y : Nat} : rc (adX X g c) x y ↔ rc X x y ∨ ((x = g ∨ rc X x (16 + g)) ∧ wb X c y) := by
  constructor
  · intro h
    refine rc_ind (P := fun x y => rc X x y ∨ ((x = g ∨ rc X x (16 + g)) ∧ wb X c y)) ?_ ?_ h
    · intro x y hy
      rcases adX_mem.mp hy with h1 | ⟨h1, h2⟩
      · exact Or.inl (rc_kid h1)
      · exact Or.inr ⟨Or.inl h1, Or.inl h2⟩
    · intro x k y hk _ ih
      rcases adX_mem.mp hk with h1 | ⟨h1, h2⟩
      · rcases ih with h3 | ⟨h3, h4⟩
        · exact Or.inl (rc_step h1 h3)
        · refine Or.inr ⟨Or.inr ?_, h4⟩
          rcases h3 with h3 | h3
          · subst h3; exact rc_kid h1
          · exact rc_step h1 h3
      · rcases ih with h3 | ⟨h3, h4⟩
        · exact Or.inr ⟨Or.inl h1, Or.inr ⟨k, h2.symm, h3⟩⟩
        · exact Or.inr ⟨Or.inl h1, h4⟩
  · have mono : ∀ {x y}, rc X x y → rc (adX X g c) x y := fun h => rc_ind (P := fun x y => rc (adX X g c) x y) (fun x y hy => rc_kid (adX_mem.mpr (Or.inl hy))) (fun x k y hk _ ih => rc_step (adX_mem.mpr (Or.inl hk)) ih) h
    rintro (h | ⟨h1, h2⟩)
    · exact mono h
    · have hg : rc (adX X g c) g y := by
        rcases h2 with rfl | ⟨k, rfl, hk⟩
        · exact rc_kid (adX_mem.mpr (Or.inr ⟨rfl, rfl⟩))
        · exact rc_step (adX_mem.mpr (Or.inr ⟨rfl, rfl⟩)) (mono hk)
      rcases h1 with rfl | h1
      · exact hg
      · exact rc_tr (mono h1) hg
theorem adX_rk {X : Nat → List Nat} {r : Nat → Nat} {g c : Nat} (H : Rk X r) (h : ¬ wb X c (16 + g)) : ∃ r', Rk (adX X g c) r' := by
  classical
  cases Nat.lt_or_ge c 16 with
  | inl hc =>
    refine ⟨r, fun x k hk => ?_⟩
    rcases adX_mem.mp hk with h1 | ⟨_, h2⟩
    · exact H x k h1
    · omega
  | inr hc =>
    refine ⟨fun x => r x + (if x = g ∨ rc X x (16 + g) then r (c - 16) + 1 else 0), fun x k hk => ?_⟩
    show r k + _ < r x + _
    rcases adX_mem.mp hk with h1 | ⟨h1, h2⟩
    · have h3 := H x k h1
      by_cases h4 : k = g ∨ rc X k (16 + g)
      · have h5 : x = g ∨ rc X x (16 + g) := by
          rcases h4 with rfl | h4
          · exact Or.inr (rc_kid h1)
          · exact Or.inr (rc_step h1 h4)
        rw [if_pos h4, if_pos h5]; omega
      · rw [if_neg h4]; omega
    · have h4 : ¬ (k = g ∨ rc X k (16 + g)) := by
        rintro (h5 | h5)
        · exact h (Or.inl (by omega))
        · exact h (Or.inr ⟨k, h2.symm, h5⟩)
      rw [if_neg h4, if_pos (Or.inl h1), show c - 16 = k from by omega]; omega
