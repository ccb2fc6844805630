/-! what holds between the calls -/
def lb (x : Int64) (k : Nat) : Bool := x.toBitVec.getLsbD k
/-- words of a table -/
def wo (n : Nat) : Nat := if 1 < 2 ^ n / 64 then 2 ^ n / 64 else 1
/-- the desk's table of the top is right -/
def TrOK (S : Ws) (A : Ab) (r : Nat → Nat) : Prop := ∃ t, aT A = some t ∧ S.1 9 2 = n32 (2 ^ aE A) ∧ S.1 9 3 = n32 (wo (aE A)) ∧ S.1 9 4 = n32 (16 + t) ∧ ∀ s, s < 64 * wo (aE A) → lb (S.2.2 (11 + (16 + t)) (s / 64)) (s % 64) = evR A r s t
/-- the settings that are like on in what is kept all cause the top -/
def cau (f : Nat → Bool) (n kept on : Nat) : Prop := ∀ s, s < 2 ^ n → (∀ e, e < n → kept.testBit e = true → s.testBit e = on.testBit e) → f s = true
def isPr (f : Nat → Bool) (n kept on : Nat) : Prop := kept < 2 ^ n ∧ (∀ e, on.testBit e = true → kept.testBit e = true) ∧ cau f n kept on ∧ ∀ e, e < n → kept.testBit e = true → ¬ cau f n (kept - 2 ^ e) on
def pc (k : Nat) : Nat := (List.range 10).countP (fun e => k.testBit e)
def keyN (kept on : Nat) : Nat := pc kept * 1048576 + on * 1024 + (kept - on)
/-- the desk's prime terms are right -/
def PrL (f : Nat → Bool) (n : Nat) (L : List Nat) : Prop := L.Pairwise (fun a b => a < b) ∧ ∀ k, k ∈ L ↔ ∃ kept on, isPr f n kept on ∧ k = keyN kept on
def TmOK (S : Ws) (A : Ab) (r : Nat → Nat) : Prop := ∃ t, aT A = some t ∧ ∃ L : List Nat, PrL (fun s => evR A r s t) (aE A) L ∧ (L.length ≤ 300 → S.1 45 3 = n32 L.length ∧ S.1 45 4 = 0 ∧ ∀ (j : Nat) (h : j < L.length), S.2.1 46 j = n32 (L[j])) ∧ (300 < L.length → S.1 45 4 = 1)
def Inv (S : Ws) (A : Ab) (r : Nat → Nat) : Prop := Ok A r ∧ RD S A ∧ RM S A ∧ (S.1 0 7 = 1 → TrOK S A r) ∧ (S.1 0 8 = 1 → TmOK S A r)
def Cas (fL fM : List va_E → Option (Int32 × List va_E)) (S : Ws) : Prop := ∃ k S1 b S2, fL (enc S) = some (k, enc S1) ∧ fM (enc S1) = some (b, enc S2) ∧ S2.1 59 0 = k ∧ (k = 0 → S2.2.2 74 0 = b.toInt64) ∧ ∃ A r, Inv S2 A r
theorem ev_C {A : Ab} {C : Nat → Nat} {s : Nat} : ∀ (n g : Nat), ev (aE A, aG A, C, aH A, aK A, aV A, aX A, aT A) s n g = ev A s n g
  | 0, _ => rfl
  | n + 1, g => by
    show ge (aE A, aG A, C, aH A, aK A, aV A, aX A, aT A) s (ev (aE A, aG A, C, aH A, aK A, aV A, aX A, aT A) s n) g = ge A s (ev A s n) g
    rw [show ev (aE A, aG A, C, aH A, aK A, aV A, aX A, aT A) s n = ev A s n from funext (ev_C n)]; rfl
/-- reading what was written -/
theorem sS1 {S : Ws} {q k a : Nat} {x : Int32} : (sS S q k x).1 a = if a = q then upd (S.1 q) k x else S.1 a := rfl
theorem sS2 {S : Ws} {q k : Nat} {x : Int32} : (sS S q k x).2 = S.2 := rfl
theorem sI1 {S : Ws} {q k : Nat} {x : Int32} : (sI S q k x).1 = S.1 := rfl
theorem sI2 {S : Ws} {q k a : Nat} {x : Int32} : (sI S q k x).2.1 a = if a = q then upd (S.2.1 q) k x else S.2.1 a := rfl
theorem sI3 {S : Ws} {q k : Nat} {x : Int32} : (sI S q k x).2.2 = S.2.2 := rfl
theorem sL1 {S : Ws} {q k : Nat} {x : Int64} : (sL S q k x).1 = S.1 := rfl
theorem sL2 {S : Ws} {q k : Nat} {x : Int64} : (sL S q k x).2.1 = S.2.1 := rfl
theorem sL3 {S : Ws} {q k a : Nat} {x : Int64} : (sL S q k x).2.2 a = if a = q then vp_updL (S.2.2 q) k x else S.2.2 a := rfl
theorem upd_at {f : Nat → Int32} {k j : Nat} {x : Int32} : upd f k x j = if j = k then x else f j := rfl
theorem updL_at {f : Nat → Int64} {k j : Nat} {x : Int64} : vp_updL f k x j = if j = k then x else f j := rfl
theorem hx_inl {α β : Type} {E : String} {w : List va_E} {k : α → List va_E → Option ((String ⊕ β) × List va_E)} : hx_bd (some (Sum.inl E, w)) k = some (Sum.inl E, w) := rfl
theorem hx_inr {α β : Type} {a : α} {w : List va_E} {k : α → List va_E → Option ((String ⊕ β) × List va_E)} : hx_bd (some (Sum.inr a, w)) k = k a w := rfl
theorem hl_inl {α β : Type} {E : String} {w : List va_E} {h : String → List va_E → Option β} {k : α → List va_E → Option β} : hl_bd (some (Sum.inl E, w)) h k = h E w := rfl
theorem hl_inr {α β : Type} {a : α} {w : List va_E} {h : String → List va_E → Option β} {k : α → List va_E → Option β} : hl_bd (some (Sum.inr a, w)) h k = k a w := rfl
theorem wr_out0 {S : Ws} {x : Int64} : hp_wl (enc S) 74 (0 : Int32) x = some (enc (sL S 74 0 x)) := wr_out (i := 0) (by omega)
theorem rd_out0 {S : Ws} : hp_rl (enc S) 74 (0 : Int32) = some (S.2.2 74 0) := rd_out (i := 0) (by omega)
theorem inv_tp {S : Ws} {A : Ab} {r : Nat → Nat} (I : Inv S A r) : ∀ k, aT A = some k → k < 12 := fun k hk => by
  have := I.1.2.2.2.2.2.2.2 k hk; have := I.1.2.1; omega
