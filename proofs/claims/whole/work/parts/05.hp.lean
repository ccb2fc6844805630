/-! the heap's own readers and writers over abstract worlds: none where the machine would throw or where the cell is of another kind -/
def hp_gi (w : List va_E) (q ci k : Nat) : Option Int32 := match w[q]? with
  | some (.inr (c, fs)) => if c = ci then (match fs[k]? with
    | some (.int x) => some x
    | _ => none) else none
  | _ => none
def hp_gr (w : List va_E) (q ci k : Nat) : Option Nat := match w[q]? with
  | some (.inr (c, fs)) => if c = ci then (match fs[k]? with
    | some (.ref x) => some x
    | _ => none) else none
  | _ => none
def hp_pi (w : List va_E) (q ci k : Nat) (x : Int32) : Option (List va_E) := match w[q]? with
  | some (.inr (c, fs)) => if c = ci ∧ k < fs.length then some (w.set q (.inr (c, fs.set k (.int x)))) else none
  | _ => none
def hp_pz (w : List va_E) (q ci k : Nat) (x : Int32) : Option (List va_E) := if x = 0 ∨ x = 1 then hp_pi w q ci k x else none
def hp_ri (w : List va_E) (q : Nat) (i : Int32) : Option Int32 := match w[q]? with
  | some (.inl (c, n, .inl f)) => if c = 0 ∧ ¬ (i < 0 ∨ n ≤ i.toNatClampNeg) then some (f i.toNatClampNeg) else none
  | _ => none
def hp_rz (w : List va_E) (q : Nat) (i : Int32) : Option Int32 := match w[q]? with
  | some (.inl (c, n, .inl f)) => if c = 2 ∧ ¬ (i < 0 ∨ n ≤ i.toNatClampNeg) then some (f i.toNatClampNeg) else none
  | _ => none
def hp_rl (w : List va_E) (q : Nat) (i : Int32) : Option Int64 := match w[q]? with
  | some (.inl (c, n, .inr (.inl f))) => if c = 1 ∧ ¬ (i < 0 ∨ n ≤ i.toNatClampNeg) then some (f i.toNatClampNeg) else none
  | _ => none
def hp_ra (w : List va_E) (q : Nat) (i : Int32) : Option Nat := match w[q]? with
  | some (.inl (c, n, .inr (.inr (.inr (.inr f))))) => if c = 3 ∧ ¬ (i < 0 ∨ n ≤ i.toNatClampNeg) then f i.toNatClampNeg else none
  | _ => none
def hp_wi (w : List va_E) (q : Nat) (i : Int32) (x : Int32) : Option (List va_E) := match w[q]? with
  | some (.inl (c, n, .inl f)) => if c = 0 ∧ ¬ (i < 0 ∨ n ≤ i.toNatClampNeg) then some (w.set q (.inl (c, n, .inl (upd f i.toNatClampNeg x)))) else none
  | _ => none
def hp_wz (w : List va_E) (q : Nat) (i : Int32) (x : Int32) : Option (List va_E) := match w[q]? with
  | some (.inl (c, n, .inl f)) => if c = 2 ∧ ¬ (i < 0 ∨ n ≤ i.toNatClampNeg) then some (w.set q (.inl (c, n, .inl (upd f i.toNatClampNeg (vp_nar .boolean x))))) else none
  | _ => none
def hp_wl (w : List va_E) (q : Nat) (i : Int32) (x : Int64) : Option (List va_E) := match w[q]? with
  | some (.inl (c, n, .inr (.inl f))) => if c = 1 ∧ ¬ (i < 0 ∨ n ≤ i.toNatClampNeg) then some (w.set q (.inl (c, n, .inr (.inl (vp_updL f i.toNatClampNeg x))))) else none
  | _ => none
theorem hp_gi_of {w : List va_E} {q ci k : Nat} {x : Int32} (h : hp_gi w q ci k = some x) : ∃ fs, w[q]? = some (.inr (ci, fs)) ∧ fs[k]? = some (.int x) := by
  unfold hp_gi at h
  split at h
  · rename_i c fs hq
    split at h
    · rename_i hc
      subst hc
      split at h
      · rename_i y hy
        cases h
        exact ⟨fs, hq, hy⟩
      · cases h
    · cases h
  · cases h
theorem hp_gr_of {w : List va_E} {q ci k x : Nat} (h : hp_gr w q ci k = some x) : ∃ fs, w[q]? = some (.inr (ci, fs)) ∧ fs[k]? = some (.ref x) := by
  unfold hp_gr at h
  split at h
  · rename_i c fs hq
    split at h
    · rename_i hc
      subst hc
      split at h
      · rename_i y hy
        cases h
        exact ⟨fs, hq, hy⟩
      · cases h
    · cases h
  · cases h
theorem hp_pi_of {w w' : List va_E} {q ci k : Nat} {x : Int32} (h : hp_pi w q ci k x = some w') : ∃ fs, w[q]? = some (.inr (ci, fs)) ∧ k < fs.length ∧ w.set q (.inr (ci, fs.set k (.int x))) = w' := by
  unfold hp_pi at h
  split at h
  · rename_i c fs hq
    split at h
    · rename_i hc
      obtain ⟨hc, hk⟩ := hc
      subst hc
      cases h
      exact ⟨fs, hq, hk, rfl⟩
    · cases h
  · cases h
theorem hp_ri_of {w : List va_E} {q : Nat} {i x : Int32} (h : hp_ri w q i = some x) : ∃ n f, w[q]? = some (.inl (0, n, .inl f)) ∧ vp_in i n ∧ f i.toNatClampNeg = x := by
  unfold hp_ri at h
  split at h
  · rename_i c n f hq
    split at h
    · rename_i hc
      obtain ⟨hc, hk⟩ := hc
      subst hc
      cases h
      exact ⟨n, f, hq, hk, rfl⟩
    · cases h
  · cases h
theorem hp_rz_of {w : List va_E} {q : Nat} {i x : Int32} (h : hp_rz w q i = some x) : ∃ n f, w[q]? = some (.inl (2, n, .inl f)) ∧ vp_in i n ∧ f i.toNatClampNeg = x := by
  unfold hp_rz at h
  split at h
  · rename_i c n f hq
    split at h
    · rename_i hc
      obtain ⟨hc, hk⟩ := hc
      subst hc
      cases h
      exact ⟨n, f, hq, hk, rfl⟩
    · cases h
  · cases h
theorem hp_rl_of {w : List va_E} {q : Nat} {i : Int32} {x : Int64} (h : hp_rl w q i = some x) : ∃ n f, w[q]? = some (.inl (1, n, .inr (.inl f))) ∧ vp_in i n ∧ f i.toNatClampNeg = x := by
  unfold hp_rl at h
  split at h
  · rename_i c n f hq
    split at h
    · rename_i hc
      obtain ⟨hc, hk⟩ := hc
      subst hc
      cases h
      exact ⟨n, f, hq, hk, rfl⟩
    · cases h
  · cases h
theorem hp_ra_of {w : List va_E} {q x : Nat} {i : Int32} (h : hp_ra w q i = some x) : ∃ n f, w[q]? = some (.inl (3, n, .inr (.inr (.inr (.inr f))))) ∧ vp_in i n ∧ f i.toNatClampNeg = some x := by
  unfold hp_ra at h
  split at h
  · rename_i c n f hq
    split at h
    · rename_i hc
      obtain ⟨hc, hk⟩ := hc
      subst hc
      exact ⟨n, f, hq, hk, h⟩
    · cases h
  · cases h
theorem hp_wi_of {w w' : List va_E} {q : Nat} {i x : Int32} (h : hp_wi w q i x = some w') : ∃ n f, w[q]? = some (.inl (0, n, .inl f)) ∧ vp_in i n ∧ w.set q (.inl (0, n, .inl (upd f i.toNatClampNeg x))) = w' := by
  unfold hp_wi at h
  split at h
  · rename_i c n f hq
    split at h
    · rename_i hc
      obtain ⟨hc, hk⟩ := hc
      subst hc
      cases h
      exact ⟨n, f, hq, hk, rfl⟩
    · cases h
  · cases h
theorem hp_wz_of {w w' : List va_E} {q : Nat} {i x : Int32} (h : hp_wz w q i x = some w') : ∃ n f, w[q]? = some (.inl (2, n, .inl f)) ∧ vp_in i n ∧ w.set q (.inl (2, n, .inl (upd f i.toNatClampNeg (vp_nar .boolean x)))) = w' := by
  unfold hp_wz at h
  split at h
  · rename_i c n f hq
    split at h
    · rename_i hc
      obtain ⟨hc, hk⟩ := hc
      subst hc
      cases h
      exact ⟨n, f, hq, hk, rfl⟩
    · cases h
  · cases h
theorem hp_wl_of {w w' : List va_E} {q : Nat} {i : Int32} {x : Int64} (h : hp_wl w q i x = some w') : ∃ n f, w[q]? = some (.inl (1, n, .inr (.inl f))) ∧ vp_in i n ∧ w.set q (.inl (1, n, .inr (.inl (vp_updL f i.toNatClampNeg x)))) = w' := by
  unfold hp_wl at h
  split at h
  · rename_i c n f hq
    split at h
    · rename_i hc
      obtain ⟨hc, hk⟩ := hc
      subst hc
      cases h
      exact ⟨n, f, hq, hk, rfl⟩
    · cases h
  · cases h
def hp_is (w : List va_E) (q ci : Nat) : Option Unit := match w[q]? with
  | some (.inr (c, _)) => if c = ci then some () else none
  | _ => none
theorem hp_is_of {w : List va_E} {q ci : Nat} {u : Unit} (h : hp_is w q ci = some u) : ∃ fs, w[q]? = some (.inr (ci, fs)) := by
  unfold hp_is at h
  split at h
  · rename_i c fs hq
    split at h
    · rename_i hc
      subst hc
      exact ⟨fs, hq⟩
    · cases h
  · cases h
theorem hp_if {α : Type} {c : Prop} [Decidable c] {o : Option α} {r : α} (h : (if c then o else none) = some r) : c ∧ o = some r := by
  by_cases hc : c
  · rw [if_pos hc] at h; exact ⟨hc, h⟩
  · rw [if_neg hc] at h; cases h
theorem hp_bd {α β : Type} {o : Option α} {f : α → Option β} {r : β} (h : o.bind f = some r) : ∃ x, o = some x ∧ f x = some r := by
  cases o with
  | none => cases h
  | some x => exact ⟨x, rfl, h⟩
theorem hp_nz {x : Int32} (h : x = 0 ∨ x = 1) : narrow .boolean (.int x) = .int x := by
  rcases h with h | h <;> subst h <;> decide +kernel
theorem hp_fz {x : Int32} (h : x = 0 ∨ x = 1) : fits .boolean (.int x) = true := by
  rcases h with h | h <;> subst h <;> decide +kernel
section HP
variable {p : Program} {l : Launch} {e : Env} {R : Room} {s : State} {m : MethodId} {args : Array Value} {below : List Frame} {meth : Method} {c : Code} {cells slots : Nat} {Q : State → Prop}
variable {D : va_G} {cl : List vw_C} {ca : Nat → Nat} {A : Nat → Prop} {ad : Nat → Nat} {cc : ByteArray} {nL : Nat} {own : String} {Ts : List Cond}
variable {pc : Nat} {L L' : List (Option Value)} {st : List Value} {w w' : List va_E}
theorem hv_gi (K : av_K p s m args meth c D cl ca A cc nL own Ts) {index ci kf q : Nat} {x : Int32} (f : av_F own Ts cl index ci kf) (hd : decode cc pc = .ok (.getfield index, 3)) (h : hp_gi w q ci kf = some x) (k : av_V p l e R s m args below meth c D cl A ad ca nL Q cells slots (pc + 3) L (.int x :: st) w) : av_V p l e R s m args below meth c D cl A ad ca nL Q cells slots pc L (.ref q :: st) w := by
  obtain ⟨fs, h1, h2⟩ := hp_gi_of h
  exact av_getf K f hd h1 h2 k
theorem hv_gr (K : av_K p s m args meth c D cl ca A cc nL own Ts) {index ci kf q x : Nat} (f : av_F own Ts cl index ci kf) (hd : decode cc pc = .ok (.getfield index, 3)) (h : hp_gr w q ci kf = some x) (k : av_V p l e R s m args below meth c D cl A ad ca nL Q cells slots (pc + 3) L (.ref x :: st) w) : av_V p l e R s m args below meth c D cl A ad ca nL Q cells slots pc L (.ref q :: st) w := by
  obtain ⟨fs, h1, h2⟩ := hp_gr_of h
  exact av_getf K f hd h1 h2 k
theorem hv_giN (K : av_K p s m args meth c D cl ca A cc nL own Ts) {Ns : List Cond} {tab : Nat → Int64} (G : av_G Ns tab A s s.heap) {index ci kf q : Nat} {host : String} {x : Int32} (f : av_FN own host Ts Ns cl index ci kf) (hd : decode cc pc = .ok (.getfield index, 3)) (h : hp_gi w q ci kf = some x) (k : av_V p l e R s m args below meth c D cl A ad ca nL Q cells slots (pc + 3) L (.int x :: st) w) : av_V p l e R s m args below meth c D cl A ad ca nL Q cells slots pc L (.ref q :: st) w := by
  obtain ⟨fs, h1, h2⟩ := hp_gi_of h
  exact av_getfN K G.2.1 f hd h1 h2 k
theorem hv_grN (K : av_K p s m args meth c D cl ca A cc nL own Ts) {Ns : List Cond} {tab : Nat → Int64} (G : av_G Ns tab A s s.heap) {index ci kf q x : Nat} {host : String} (f : av_FN own host Ts Ns cl index ci kf) (hd : decode cc pc = .ok (.getfield index, 3)) (h : hp_gr w q ci kf = some x) (k : av_V p l e R s m args below meth c D cl A ad ca nL Q cells slots (pc + 3) L (.ref x :: st) w) : av_V p l e R s m args below meth c D cl A ad ca nL Q cells slots pc L (.ref q :: st) w := by
  obtain ⟨fs, h1, h2⟩ := hp_gr_of h
  exact av_getfN K G.2.1 f hd h1 h2 k
theorem hv_pi (K : av_K p s m args meth c D cl ca A cc nL own Ts) {index ci kf q : Nat} {x : Int32} (f : av_FP own Ts cl index ci kf .int) (hd : decode cc pc = .ok (.putfield index, 3)) (h : hp_pi w q ci kf x = some w') (k : av_V p l e R s m args below meth c D cl A ad ca nL Q cells slots (pc + 3) L st w') : av_V p l e R s m args below meth c D cl A ad ca nL Q cells slots pc L (.int x :: .ref q :: st) w := by
  obtain ⟨fs, h1, h2, h3⟩ := hp_pi_of h
  exact av_putf K f hd h1 rfl rfl h2 h3 k
theorem hv_pz (K : av_K p s m args meth c D cl ca A cc nL own Ts) {index ci kf q : Nat} {x : Int32} (f : av_FP own Ts cl index ci kf .boolean) (hd : decode cc pc = .ok (.putfield index, 3)) (h : hp_pz w q ci kf x = some w') (k : av_V p l e R s m args below meth c D cl A ad ca nL Q cells slots (pc + 3) L st w') : av_V p l e R s m args below meth c D cl A ad ca nL Q cells slots pc L (.int x :: .ref q :: st) w := by
  unfold hp_pz at h
  split at h
  · rename_i hx
    obtain ⟨fs, h1, h2, h3⟩ := hp_pi_of h
    exact av_putf K f hd h1 (hp_nz hx) (hp_fz hx) h2 h3 k
  · cases h
theorem hv_ri (K : av_K p s m args meth c D cl ca A cc nL own Ts) {q : Nat} {i x : Int32} (hd : decode cc pc = .ok (.iaload, 1)) (h : hp_ri w q i = some x) (k : av_V p l e R s m args below meth c D cl A ad ca nL Q cells slots (pc + 1) L (.int x :: st) w) : av_V p l e R s m args below meth c D cl A ad ca nL Q cells slots pc L (.int i :: .ref q :: st) w := by
  obtain ⟨n, f, h1, h2, h3⟩ := hp_ri_of h
  subst h3
  exact av_iald K hd h1 h2 k
theorem hv_rz (K : av_K p s m args meth c D cl ca A cc nL own Ts) {q : Nat} {i x : Int32} (hd : decode cc pc = .ok (.baload, 1)) (h : hp_rz w q i = some x) (k : av_V p l e R s m args below meth c D cl A ad ca nL Q cells slots (pc + 1) L (.int x :: st) w) : av_V p l e R s m args below meth c D cl A ad ca nL Q cells slots pc L (.int i :: .ref q :: st) w := by
  obtain ⟨n, f, h1, h2, h3⟩ := hp_rz_of h
  subst h3
  exact av_zald K hd h1 h2 k
theorem hv_rl (K : av_K p s m args meth c D cl ca A cc nL own Ts) {q : Nat} {i : Int32} {x : Int64} (hd : decode cc pc = .ok (.laload, 1)) (h : hp_rl w q i = some x) (k : av_V p l e R s m args below meth c D cl A ad ca nL Q cells slots (pc + 1) L (.long x :: st) w) : av_V p l e R s m args below meth c D cl A ad ca nL Q cells slots pc L (.int i :: .ref q :: st) w := by
  obtain ⟨n, f, h1, h2, h3⟩ := hp_rl_of h
  subst h3
  exact av_lald K hd h1 h2 k
theorem hv_ra (K : av_K p s m args meth c D cl ca A cc nL own Ts) {q x : Nat} {i : Int32} (hd : decode cc pc = .ok (.aaload, 1)) (h : hp_ra w q i = some x) (k : av_V p l e R s m args below meth c D cl A ad ca nL Q cells slots (pc + 1) L (.ref x :: st) w) : av_V p l e R s m args below meth c D cl A ad ca nL Q cells slots pc L (.int i :: .ref q :: st) w := by
  obtain ⟨n, f, h1, h2, h3⟩ := hp_ra_of h
  exact av_aald K hd h1 h2 h3 k
theorem hv_wi (K : av_K p s m args meth c D cl ca A cc nL own Ts) {q : Nat} {i x : Int32} (hd : decode cc pc = .ok (.iastore, 1)) (h : hp_wi w q i x = some w') (k : av_V p l e R s m args below meth c D cl A ad ca nL Q cells slots (pc + 1) L st w') : av_V p l e R s m args below meth c D cl A ad ca nL Q cells slots pc L (.int x :: .int i :: .ref q :: st) w := by
  obtain ⟨n, f, h1, h2, h3⟩ := hp_wi_of h
  exact av_iast K hd h1 h2 h3 k
theorem hv_wz (K : av_K p s m args meth c D cl ca A cc nL own Ts) {q : Nat} {i x : Int32} (hd : decode cc pc = .ok (.bastore, 1)) (h : hp_wz w q i x = some w') (k : av_V p l e R s m args below meth c D cl A ad ca nL Q cells slots (pc + 1) L st w') : av_V p l e R s m args below meth c D cl A ad ca nL Q cells slots pc L (.int x :: .int i :: .ref q :: st) w := by
  obtain ⟨n, f, h1, h2, h3⟩ := hp_wz_of h
  exact av_zast K hd h1 h2 h3 k
theorem hv_wl (K : av_K p s m args meth c D cl ca A cc nL own Ts) {q : Nat} {i : Int32} {x : Int64} (hd : decode cc pc = .ok (.lastore, 1)) (h : hp_wl w q i x = some w') (k : av_V p l e R s m args below meth c D cl A ad ca nL Q cells slots (pc + 1) L st w') : av_V p l e R s m args below meth c D cl A ad ca nL Q cells slots pc L (.long x :: .int i :: .ref q :: st) w := by
  obtain ⟨n, f, h1, h2, h3⟩ := hp_wl_of h
  exact av_last K hd h1 h2 h3 k
/-- less is known of the locals -/
def ax_fg (L : List (Option Value)) (ks : List Nat) : List (Option Value) := ks.foldl (fun L k => L.set k none) L
theorem ax_fg_sub (ks : List Nat) : ∀ (L : List (Option Value)) (i : Nat) (v : Value), (ax_fg L ks)[i]? = some (some v) → L[i]? = some (some v) := by
  induction ks with
  | nil => intro L i v h; exact h
  | cons k ks ih =>
    intro L i v h
    have h1 := ih (L.set k none) i v h
    rw [List.getElem?_set] at h1
    by_cases hk : k = i
    · rw [if_pos hk] at h1
      split at h1 <;> cases h1
    · rw [if_neg hk] at h1
      exact h1
theorem hv_fg (ks : List Nat) (hl : ax_fg L ks = L') (k : av_V p l e R s m args below meth c D cl A ad ca nL Q cells slots pc L' st w) : av_V p l e R s m args below meth c D cl A ad ca nL Q cells slots pc L st w :=
  fun H locs ls hP hD hS hL => k H locs ls hP hD hS ⟨hL.1, hL.2.1, fun i v h => hL.2.2 i v (ax_fg_sub ks L i v (by rw [hl]; exact h))⟩
end HP
