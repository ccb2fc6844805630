/-! literals, frames, loops -/
section
variable {a k : Nat}
theorem nl_add : n32 a + no_index (OfNat.ofNat k) = n32 (a + OfNat.ofNat k) := n32_add a k
theorem ln_add : no_index (OfNat.ofNat k) + n32 a = n32 (OfNat.ofNat k + a) := n32_add k a
theorem nl_mul : n32 a * no_index (OfNat.ofNat k) = n32 (a * OfNat.ofNat k) := n32_mul a k
theorem ln_mul : no_index (OfNat.ofNat k) * n32 a = n32 (OfNat.ofNat k * a) := n32_mul k a
theorem nl_sub (h : OfNat.ofNat k ≤ a) : n32 a - no_index (OfNat.ofNat k) = n32 (a - OfNat.ofNat k) := n32_sub h
theorem ln_sub (h : a ≤ OfNat.ofNat k) : no_index (OfNat.ofNat k) - n32 a = n32 (OfNat.ofNat k - a) := n32_sub h
theorem nl_div (ha : a < 2147483648) (hb : OfNat.ofNat k < 2147483648) (h0 : OfNat.ofNat k ≠ 0) : n32 a / no_index (OfNat.ofNat k) = n32 (a / OfNat.ofNat k) := n32_div ha hb h0
theorem nl_lt (ha : a < 2147483648) (hb : OfNat.ofNat k < 2147483648) : n32 a < no_index (OfNat.ofNat k) ↔ a < OfNat.ofNat k := n32_lt ha hb
theorem ln_lt (ha : a < 2147483648) (hb : OfNat.ofNat k < 2147483648) : no_index (OfNat.ofNat k) < n32 a ↔ OfNat.ofNat k < a := n32_lt hb ha
theorem nl_le (ha : a < 2147483648) (hb : OfNat.ofNat k < 2147483648) : n32 a ≤ no_index (OfNat.ofNat k) ↔ a ≤ OfNat.ofNat k := n32_le ha hb
theorem ln_le (ha : a < 2147483648) (hb : OfNat.ofNat k < 2147483648) : no_index (OfNat.ofNat k) ≤ n32 a ↔ OfNat.ofNat k ≤ a := n32_le hb ha
theorem nl_eq (ha : a < 2147483648) (hb : OfNat.ofNat k < 2147483648) : n32 a = no_index (OfNat.ofNat k) ↔ a = OfNat.ofNat k := n32_inj ha hb
theorem ln_n : n32 (OfNat.ofNat k) = OfNat.ofNat k := rfl
end
theorem neg_ne {x : Int32} (h : x < 0) (n : Nat) (hn : n < 2147483648) : x ≠ n32 n := by
  intro e; subst e; exact n32_nn hn h
/-- what a call may change: objects' fields, int arrays, long arrays, by place -/
def Fr (fs is ls : List Nat) (S T : Ws) : Prop := (∀ q, q ∉ fs → T.1 q = S.1 q) ∧ (∀ q, q ∉ is → T.2.1 q = S.2.1 q) ∧ (∀ q, q ∉ ls → T.2.2 q = S.2.2 q)
theorem Fr.rf {fs is ls : List Nat} {S : Ws} : Fr fs is ls S S := ⟨fun _ _ => rfl, fun _ _ => rfl, fun _ _ => rfl⟩
theorem Fr.tr {fs is ls : List Nat} {S T U : Ws} (h : Fr fs is ls S T) (g : Fr fs is ls T U) : Fr fs is ls S U :=
  ⟨fun q hq => (g.1 q hq).trans (h.1 q hq), fun q hq => (g.2.1 q hq).trans (h.2.1 q hq), fun q hq => (g.2.2 q hq).trans (h.2.2 q hq)⟩
theorem Fr.mono {fs is ls fs' is' ls' : List Nat} {S T : Ws} (h : Fr fs is ls S T) (h1 : ∀ q, q ∈ fs → q ∈ fs') (h2 : ∀ q, q ∈ is → q ∈ is') (h3 : ∀ q, q ∈ ls → q ∈ ls') : Fr fs' is' ls' S T :=
  ⟨fun q hq => h.1 q (fun hh => hq (h1 q hh)), fun q hq => h.2.1 q (fun hh => hq (h2 q hh)), fun q hq => h.2.2 q (fun hh => hq (h3 q hh))⟩
theorem upI_ne {f : Nat → Nat → Int32} {q i a : Nat} {x : Int32} (h : a ≠ q) : upI f q i x a = f a := by unfold upI; rw [if_neg h]
theorem upI_eq {f : Nat → Nat → Int32} {q i : Nat} {x : Int32} : upI f q i x q = upd (f q) i x := by unfold upI; rw [if_pos rfl]
theorem upL_ne {f : Nat → Nat → Int64} {q i a : Nat} {x : Int64} (h : a ≠ q) : upL f q i x a = f a := by unfold upL; rw [if_neg h]
theorem upL_eq {f : Nat → Nat → Int64} {q i : Nat} {x : Int64} : upL f q i x q = vp_updL (f q) i x := by unfold upL; rw [if_pos rfl]
theorem Fr.sS {fs is ls : List Nat} {S : Ws} {q k : Nat} {x : Int32} (h : q ∈ fs) : Fr fs is ls S (sS S q k x) :=
  ⟨fun a ha => upI_ne (fun e => ha (e ▸ h)), fun _ _ => rfl, fun _ _ => rfl⟩
theorem Fr.sI {fs is ls : List Nat} {S : Ws} {q k : Nat} {x : Int32} (h : q ∈ is) : Fr fs is ls S (sI S q k x) :=
  ⟨fun _ _ => rfl, fun a ha => upI_ne (fun e => ha (e ▸ h)), fun _ _ => rfl⟩
theorem Fr.sL {fs is ls : List Nat} {S : Ws} {q k : Nat} {x : Int64} (h : q ∈ ls) : Fr fs is ls S (sL S q k x) :=
  ⟨fun _ _ => rfl, fun _ _ => rfl, fun a ha => upL_ne (fun e => ha (e ▸ h))⟩
theorem Fr.sR {fs is ls : List Nat} {S : Ws} {q : Nat} {r : Nat → Int64} (h : q ∈ ls) : Fr fs is ls S (sR S q r) :=
  ⟨fun _ _ => rfl, fun _ _ => rfl, fun a ha => by show upR S.2.2 q r a = _; unfold upR; rw [if_neg (fun e : a = q => ha (e ▸ h))]⟩
theorem upd_eq {f : Nat → Int32} {i : Nat} {x : Int32} : upd f i x i = x := by unfold upd; rw [if_pos rfl]
theorem upd_ne {f : Nat → Int32} {i j : Nat} {x : Int32} (h : j ≠ i) : upd f i x j = f j := by unfold upd; rw [if_neg h]
theorem updL_eq {f : Nat → Int64} {i : Nat} {x : Int64} : vp_updL f i x i = x := by unfold vp_updL; rw [if_pos rfl]
theorem updL_ne {f : Nat → Int64} {i j : Nat} {x : Int64} (h : j ≠ i) : vp_updL f i x j = f j := by unfold vp_updL; rw [if_neg h]
theorem nar_0 : vp_nar .boolean 0 = 0 := by decide
theorem nar_1 : vp_nar .boolean 1 = 1 := by decide
def b32 (b : Bool) : Int32 := if b then 1 else 0
theorem nar_b (b : Bool) : vp_nar .boolean (b32 b) = b32 b := by cases b <;> decide
theorem b32_0 (b : Bool) : b32 b = 0 ↔ b = false := by cases b <;> decide
theorem b32_1 (b : Bool) : b32 b = 1 ↔ b = true := by cases b <;> decide
theorem b32_ok (b : Bool) : b32 b = 0 ∨ b32 b = 1 := by cases b <;> decide
/-- a counting loop: at each step the fuel falls by one, the counter rises by one, the invariant goes on -/
theorem lp {σ β : Type} {F : Nat → Nat → σ → β} {I : Nat → σ → Prop} {N : Nat} (step : ∀ n j s, j < N → I j s → ∃ s', I (j + 1) s' ∧ F (n + 1) j s = F n (j + 1) s') : ∀ (m n j : Nat) (s : σ), j + m = N → m ≤ n → I j s → ∃ s', I N s' ∧ F n j s = F (n - m) N s'
  | 0, n, j, s, hj, _, hI => ⟨s, by have : j = N := by omega
                                    exact this ▸ hI, by have : j = N := by omega
                                                        subst this; rfl⟩
  | m + 1, 0, j, s, hj, hn, hI => absurd hn (by omega)
  | m + 1, n + 1, j, s, hj, hn, hI => by
    obtain ⟨s1, h1, e1⟩ := step n j s (by omega) hI
    obtain ⟨s2, h2, e2⟩ := lp step m n (j + 1) s1 (by omega) (by omega) h1
    exact ⟨s2, h2, by rw [e1, e2, show n + 1 - (m + 1) = n - m from by omega]⟩
/-- from the start, with one round of fuel left for the end -/
theorem lp0 {σ β : Type} {F : Nat → Nat → σ → β} {I : Nat → σ → Prop} {N n : Nat} {s : σ} (hn : N < n) (hI : I 0 s) (step : ∀ n j s, j < N → I j s → ∃ s', I (j + 1) s' ∧ F (n + 1) j s = F n (j + 1) s') : ∃ s', I N s' ∧ ∃ m, F n 0 s = F (m + 1) N s' := by
  obtain ⟨s', h1, e1⟩ := lp step N n 0 s (by omega) (by omega) hI
  exact ⟨s', h1, n - N - 1, by rw [e1, show n - N - 1 + 1 = n - N from by omega]⟩
