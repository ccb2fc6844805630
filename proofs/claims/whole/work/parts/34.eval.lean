/-! when a gate fails: the equations, that they have one solution -/
def gf (kd vt n len : Nat) : Bool := if kd = 0 then decide (n = len) else if kd = 1 then decide (0 < n) else if kd = 2 then decide (vt ≤ n) else if kd = 3 then decide (n % 2 = 1) else decide (n = 0)
/-- a child's state, out of the gates' -/
def cv (H : Nat → Nat) (s : Nat) (f : Nat → Bool) (c : Nat) : Bool := if 16 ≤ c then f (c - 16) else if H c = 0 then s.testBit c else decide (H c = 2)
def ge (A : Ab) (s : Nat) (f : Nat → Bool) (g : Nat) : Bool := gf (aK A g) (aV A g) ((aX A g).countP (cv (aH A) s f)) (aX A g).length
theorem cv_cong {H : Nat → Nat} {s : Nat} {f f' : Nat → Bool} {c : Nat} (h : ∀ k, c = 16 + k → f k = f' k) : cv H s f c = cv H s f' c := by
  unfold cv
  by_cases hc : 16 ≤ c
  · rw [if_pos hc, if_pos hc, h (c - 16) (by omega)]
  · rw [if_neg hc, if_neg hc]
theorem ge_cong {A : Ab} {s : Nat} {f f' : Nat → Bool} {g : Nat} (h : ∀ k, 16 + k ∈ aX A g → f k = f' k) : ge A s f g = ge A s f' g := by
  unfold ge
  rw [List.countP_congr (fun c hc => by rw [cv_cong (fun k e => h k (e ▸ hc))])]
def ev (A : Ab) (s : Nat) : Nat → Nat → Bool
  | 0, _ => false
  | n + 1, g => ge A s (ev A s n) g
theorem ev_st {A : Ab} {s : Nat} {r : Nat → Nat} (H : Rk (aX A) r) : ∀ (n m g : Nat), r g < n → r g < m → ev A s n g = ev A s m g
  | 0, _, _, h, _ => absurd h (by omega)
  | _ + 1, 0, _, _, h => absurd h (by omega)
  | n + 1, m + 1, g, h1, h2 => ge_cong (fun k hk => ev_st H n m k (by have := H g k hk; omega) (by have := H g k hk; omega))
/-- what the gates say at a setting, out of a rank -/
def evR (A : Ab) (r : Nat → Nat) (s g : Nat) : Bool := ev A s (r g + 1) g
theorem evR_eq {A : Ab} {r : Nat → Nat} (H : Rk (aX A) r) (s g : Nat) : evR A r s g = ge A s (evR A r s) g := by
  show ge A s (ev A s (r g)) g = _
  exact ge_cong (fun k hk => ev_st H _ _ k (H g k hk) (by omega))
/-- one solution on a set that holds the gates among its members' children -/
theorem ev_uniq {A : Ab} {r : Nat → Nat} (H : Rk (aX A) r) {s : Nat} {P : Nat → Prop} {f f' : Nat → Bool} (hP : ∀ g k, P g → 16 + k ∈ aX A g → P k) (h1 : ∀ g, P g → f g = ge A s f g) (h2 : ∀ g, P g → f' g = ge A s f' g) : ∀ (n g : Nat), r g < n → P g → f g = f' g
  | 0, _, h, _ => absurd h (by omega)
  | n + 1, g, h, hg => by
    rw [h1 g hg, h2 g hg]
    exact ge_cong (fun k hk => ev_uniq H hP h1 h2 n k (by have := H g k hk; omega) (hP g k hg hk))
theorem cv_mod {H : Nat → Nat} {n s : Nat} {f : Nat → Bool} {c : Nat} (h : c < n ∨ 16 ≤ c) : cv H (s % 2 ^ n) f c = cv H s f c := by
  unfold cv
  by_cases hc : 16 ≤ c
  · rw [if_pos hc, if_pos hc]
  · rw [if_neg hc, if_neg hc, Nat.testBit_mod_two_pow]
    have : c < n := by omega
    simp [this]
/-- the state is sound -/
def Ok (A : Ab) (r : Nat → Nat) : Prop := aE A ≤ 10 ∧ aG A ≤ 12 ∧ (∀ i, i < aE A → aC A i ≤ 16 ∧ aH A i ≤ 2) ∧ (∀ g, g < aG A → aK A g ≤ 4 ∧ aV A g ≤ 4 ∧ (aK A g = 2 → 1 ≤ aV A g)) ∧ (∀ g, (aX A g).Nodup ∧ (aX A g).length ≤ (if aK A g = 4 then 1 else 4)) ∧ (∀ g c, c ∈ aX A g → g < aG A ∧ (c < aE A ∨ 16 ≤ c ∧ c < 16 + aG A)) ∧ Rk (aX A) r ∧ (∀ t, aT A = some t → t < aG A)
theorem ev_mod {A : Ab} {r : Nat → Nat} (O : Ok A r) (s g : Nat) : evR A r (s % 2 ^ aE A) g = evR A r s g := by
  refine ev_uniq (P := fun _ => True) O.2.2.2.2.2.2.1 (fun _ _ _ _ => trivial) (fun g _ => evR_eq O.2.2.2.2.2.2.1 _ g) (s := s % 2 ^ aE A) (fun g _ => ?_) (r g + 1) g (by omega) trivial
  rw [evR_eq O.2.2.2.2.2.2.1]
  have e : (aX A g).countP (cv (aH A) s (evR A r s)) = (aX A g).countP (cv (aH A) (s % 2 ^ aE A) (evR A r s)) := List.countP_congr (fun c hc => by rw [cv_mod (n := aE A) (by have := (O.2.2.2.2.2.1 g c hc).2; omega)])
  unfold ge
  rw [e]
/-- the desk's fields hold the state -/
def RD (S : Ws) (A : Ab) : Prop := S.1 1 2 = n32 (aE A) ∧ (∀ i, i < aE A → S.2.1 2 i = n32 (aC A i) ∧ S.2.1 3 i = n32 (aH A i)) ∧ S.1 4 4 = n32 (aG A) ∧ (∀ g, g < aG A → S.2.1 5 g = n32 (aK A g) ∧ S.2.1 6 g = n32 (aV A g)) ∧ (∀ g, g < 12 → ∀ c, c < 32 → ((bt (S.2.1 7 g) c = true ↔ c ∈ aX A g) ∧ (bt (S.2.1 8 g) c = true ↔ rc (aX A) g c))) ∧ S.1 0 6 = (match aT A with | none => -1 | some t => n32 t) ∧ (S.1 0 7 = 0 ∨ S.1 0 7 = 1) ∧ (S.1 0 8 = 0 ∨ S.1 0 8 = 1)
/-- the model's fields hold it -/
def RM (S : Ws) (A : Ab) : Prop := S.1 59 1 = n32 (aE A) ∧ (∀ i, i < aE A → S.2.1 60 i = n32 (aC A i) ∧ S.2.1 61 i = n32 (aH A i)) ∧ S.1 59 4 = n32 (aG A) ∧ (∀ g, g < aG A → S.2.1 62 g = n32 (aK A g) ∧ S.2.1 63 g = n32 (aV A g)) ∧ (∀ g, g < 12 → S.2.1 64 g = n32 (aX A g).length ∧ ∀ (j : Nat) (hj : j < (aX A g).length), S.2.1 65 (4 * g + j) = n32 ((aX A g)[j])) ∧ S.1 59 9 = (match aT A with | none => -1 | some t => n32 t)
