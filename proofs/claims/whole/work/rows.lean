section
/-! abstract worlds: a reference is a place in the list of cells; ad gives the address of a place -/
def ax_v (ad : Nat → Nat) (v : Value) : Value := match v with
  | .ref k => .ref (ad k)
  | .int x => .int x
  | .long x => .long x
  | .float x => .float x
  | .double x => .double x
  | .null => .null
  | .retAddr x => .retAddr x
theorem ax_v_cat (ad : Nat → Nat) (v : Value) : (ax_v ad v).category = v.category := by cases v <;> rfl
def ax_A (ad : Nat → Nat) (a : vp_A) : vp_A := match a with
  | (n, .inl f) => (n, .inl f)
  | (n, .inr (.inl f)) => (n, .inr (.inl f))
  | (n, .inr (.inr (.inl f))) => (n, .inr (.inr (.inl f)))
  | (n, .inr (.inr (.inr (.inl f)))) => (n, .inr (.inr (.inr (.inl f))))
  | (n, .inr (.inr (.inr (.inr f)))) => (n, .inr (.inr (.inr (.inr (fun j => (f j).map ad)))))
def ax_E (ad ca : Nat → Nat) (q : va_E) : va_E := match q with
  | .inl (c, a) => .inl (ca c, ax_A ad a)
  | .inr (c, fs) => .inr (c, fs.map (ax_v ad))
def ax_W (ad ca : Nat → Nat) (w : List va_E) : va_W := w.mapIdx (fun k c => (ad k, ax_E ad ca c))
/-- the array classes: 0 int, 1 long, 2 boolean, 3 long[] -/
def ax_ty (ca : Nat → Nat) : List (ClassId × FieldType) := [(ca 0, .int), (ca 1, .long), (ca 2, .boolean), (ca 3, .array .long)]
theorem ax_W_get (ad ca : Nat → Nat) (w : List va_E) (k : Nat) : (ax_W ad ca w)[k]? = (w[k]?).map (fun c => (ad k, ax_E ad ca c)) := by
  simp [ax_W, List.getElem?_mapIdx]
theorem ax_W_at {ad ca : Nat → Nat} {w : List va_E} {k : Nat} {c : va_E} (h : w[k]? = some c) : (ax_W ad ca w)[k]? = some (ad k, ax_E ad ca c) := by
  rw [ax_W_get, h]; rfl
theorem ax_W_set (ad ca : Nat → Nat) (w : List va_E) (k : Nat) (c : va_E) : (ax_W ad ca w).set k (ad k, ax_E ad ca c) = ax_W ad ca (w.set k c) := by
  apply List.ext_getElem?
  intro i
  rw [List.getElem?_set, ax_W_get, ax_W_get, List.getElem?_set]
  have hl : (ax_W ad ca w).length = w.length := by simp [ax_W]
  rw [hl]
  by_cases h : k = i
  · subst h
    by_cases h2 : k < w.length <;> simp [h2]
  · simp [h]
/-! locals: place by place -/
def ax_L (ls : Array Slot) (nL : Nat) (ad : Nat → Nat) (L : List (Option Value)) : Prop := ls.size = nL ∧ lv_wf ls ∧ ∀ (i : Nat) (v : Value), L[i]? = some (some v) → ls[i]? = some (.val (ax_v ad v))
def ax_ll (ad : Nat → Nat) (L : List (Option Value)) : List (Nat × Value) := (List.range L.length).filterMap (fun i => match L[i]? with
  | some (some v) => some (i, ax_v ad v)
  | _ => none)
theorem ax_ll_in {ad : Nat → Nat} {L : List (Option Value)} {i : Nat} {v : Value} (h : L[i]? = some (some v)) : (i, ax_v ad v) ∈ ax_ll ad L := by
  refine List.mem_filterMap.mpr ⟨i, List.mem_range.mpr (List.getElem?_eq_some_iff.mp h).1, ?_⟩
  rw [h]
theorem ax_ll_of {ad : Nat → Nat} {L : List (Option Value)} {q : Nat × Value} (h : q ∈ ax_ll ad L) : ∃ v, L[q.1]? = some (some v) ∧ q.2 = ax_v ad v := by
  obtain ⟨i, -, hi⟩ := List.mem_filterMap.mp h
  cases hL : L[i]? with
  | none => rw [hL] at hi; cases hi
  | some o =>
    cases o with
    | none => rw [hL] at hi; cases hi
    | some v =>
      rw [hL] at hi
      cases hi
      exact ⟨v, hL, rfl⟩
theorem ax_L.has {ls : Array Slot} {nL : Nat} {ad : Nat → Nat} {L : List (Option Value)} (h : ax_L ls nL ad L) : lv_has ls nL (ax_ll ad L) := by
  refine ⟨h.1, h.2.1, fun q hq => ?_⟩
  obtain ⟨v, h1, h2⟩ := ax_ll_of hq
  rw [h2]
  exact h.2.2 _ _ h1
def ax_cb (L : List (Option Value)) (i : Nat) : List (Option Value) := match i with
  | 0 => L
  | j + 1 => match L[j]? with
    | some (some (.long _)) => L.set j none
    | some (some (.double _)) => L.set j none
    | _ => L
def ax_s1 (L : List (Option Value)) (i : Nat) (v : Value) : List (Option Value) := (ax_cb L i).set i (some v)
def ax_s2 (L : List (Option Value)) (i : Nat) (v : Value) : List (Option Value) := ((ax_cb L i).set (i + 1) none).set i (some v)
theorem ax_cb_sub {L : List (Option Value)} {i j : Nat} {u : Value} (h : (ax_cb L i)[j]? = some (some u)) : L[j]? = some (some u) ∧ ¬ (j + 1 = i ∧ u.category = 2) := by
  cases i with
  | zero => exact ⟨h, fun z => by omega⟩
  | succ k =>
    have key : ∀ (o : Option (Option Value)), L[k]? = o → (L.set k none)[j]? = some (some u) → L[j]? = some (some u) ∧ ¬ (j + 1 = k + 1 ∧ u.category = 2) := by
      intro o _ h
      rw [List.getElem?_set] at h
      by_cases hk : k = j
      · rw [if_pos hk] at h
        split at h <;> cases h
      · rw [if_neg hk] at h
        exact ⟨h, fun z => hk (by omega)⟩
    have h2 : (match L[k]? with
      | some (some (.long _)) => L.set k none
      | some (some (.double _)) => L.set k none
      | _ => L)[j]? = some (some u) := h
    clear h
    split at h2
    · exact key _ rfl h2
    · exact key _ rfl h2
    · rename_i n1 n2
      have h := h2
      refine ⟨h, fun z => ?_⟩
      obtain ⟨z1, z2⟩ := z
      have : j = k := by omega
      subst this
      cases u with
      | long x => exact n1 x h
      | double x => exact n2 x h
      | _ => simp [Value.category] at z2
theorem ax_L.s1 {ls' : Array Slot} {nL i : Nat} {ad : Nat → Nat} {L : List (Option Value)} {v : Value} (h : lv_has ls' nL ((i, ax_v ad v) :: (ax_ll ad L).filter (fun q => !(q.1 == i) && !(q.1 + 1 == i && q.2.category == 2)))) : ax_L ls' nL ad (ax_s1 L i v) := by
  refine ⟨h.1, h.2.1, fun j u hj => ?_⟩
  unfold ax_s1 at hj
  rw [List.getElem?_set] at hj
  by_cases hi : i = j
  · subst hi
    rw [if_pos rfl] at hj
    split at hj
    · cases hj
      exact h.2.2 (i, ax_v ad v) List.mem_cons_self
    · cases hj
  · rw [if_neg hi] at hj
    obtain ⟨h1, h2⟩ := ax_cb_sub hj
    refine h.2.2 (j, ax_v ad u) (List.mem_cons_of_mem _ (List.mem_filter.mpr ⟨ax_ll_in h1, ?_⟩))
    have e1 : (j == i) = false := by simpa using fun z : j = i => hi z.symm
    have e2 : (j + 1 == i && (ax_v ad u).category == 2) = false := by
      rw [ax_v_cat]
      cases hx : (j + 1 == i && u.category == 2) with
      | false => rfl
      | true => simp at hx; exact absurd hx h2
    simp only [e1, e2]
    rfl
theorem ax_L.s2 {ls' : Array Slot} {nL i : Nat} {ad : Nat → Nat} {L : List (Option Value)} {v : Value} (h : lv_has ls' nL ((i, ax_v ad v) :: (ax_ll ad L).filter (fun q => !(q.1 == i) && (!(q.1 == i + 1) && !(q.1 + 1 == i && q.2.category == 2))))) : ax_L ls' nL ad (ax_s2 L i v) := by
  refine ⟨h.1, h.2.1, fun j u hj => ?_⟩
  unfold ax_s2 at hj
  rw [List.getElem?_set] at hj
  by_cases hi : i = j
  · subst hi
    rw [if_pos rfl] at hj
    split at hj
    · cases hj
      exact h.2.2 (i, ax_v ad v) List.mem_cons_self
    · cases hj
  · rw [if_neg hi, List.getElem?_set] at hj
    by_cases hi2 : i + 1 = j
    · rw [if_pos hi2] at hj
      split at hj <;> cases hj
    · rw [if_neg hi2] at hj
      obtain ⟨h1, h2⟩ := ax_cb_sub hj
      refine h.2.2 (j, ax_v ad u) (List.mem_cons_of_mem _ (List.mem_filter.mpr ⟨ax_ll_in h1, ?_⟩))
      have e1 : (j == i) = false := by simpa using fun z : j = i => hi z.symm
      have e3 : (j == i + 1) = false := by simpa using fun z : j = i + 1 => hi2 z.symm
      have e2 : (j + 1 == i && (ax_v ad u).category == 2) = false := by
        rw [ax_v_cat]
        cases hx : (j + 1 == i && u.category == 2) with
        | false => rfl
        | true => simp at hx; exact absurd hx h2
      simp only [e1, e2, e3]
      rfl
/-- the locals with which a method begins -/
def ax_ar : List Value → List (Option Value)
  | [] => []
  | .long x :: vs => some (.long x) :: none :: ax_ar vs
  | .double x :: vs => some (.double x) :: none :: ax_ar vs
  | v :: vs => some v :: ax_ar vs
def ax_en (n : Nat) (vs : List Value) : List (Option Value) := ax_ar vs ++ List.replicate (n - (ax_ar vs).length) none
theorem ax_ar_in (ad : Nat → Nat) (vs : List Value) : ∀ (b i : Nat) (v : Value), (ax_ar vs)[i]? = some (some v) → (b + i, ax_v ad v) ∈ lv_args b (vs.map (ax_v ad)) := by
  induction vs with
  | nil => intro b i v h; simp [ax_ar] at h
  | cons u vs ih =>
    intro b i v h
    have one : u.category = 1 → ax_ar (u :: vs) = some u :: ax_ar vs → (b + i, ax_v ad v) ∈ lv_args b ((u :: vs).map (ax_v ad)) := by
      intro hc he
      rw [he] at h
      show _ ∈ (b, ax_v ad u) :: lv_args _ _
      rw [ax_v_cat, if_neg (by omega)]
      cases i with
      | zero => simp at h; subst h; exact List.mem_cons_self
      | succ k =>
        simp at h
        have := ih (b + 1) k v h
        rw [show b + (k + 1) = b + 1 + k by omega]
        exact List.mem_cons_of_mem _ this
    have two : u.category = 2 → ax_ar (u :: vs) = some u :: none :: ax_ar vs → (b + i, ax_v ad v) ∈ lv_args b ((u :: vs).map (ax_v ad)) := by
      intro hc he
      rw [he] at h
      show _ ∈ (b, ax_v ad u) :: lv_args _ _
      rw [ax_v_cat, if_pos hc]
      cases i with
      | zero => simp at h; subst h; exact List.mem_cons_self
      | succ k =>
        cases k with
        | zero => simp at h
        | succ k =>
          simp at h
          have := ih (b + 2) k v h
          rw [show b + (k + 1 + 1) = b + 2 + k by omega]
          exact List.mem_cons_of_mem _ this
    cases u with
    | long x => exact two rfl rfl
    | double x => exact two rfl rfl
    | _ => exact one rfl rfl
theorem ax_ar_len (ad : Nat → Nat) (vs : List Value) : (lg_sl (vs.map (ax_v ad))).length = (ax_ar vs).length := by
  induction vs with
  | nil => rfl
  | cons u vs ih =>
    have h : lg_sl ((u :: vs).map (ax_v ad)) = (if (ax_v ad u).category = 2 then [Slot.val (ax_v ad u), Slot.second] else [Slot.val (ax_v ad u)]) ++ lg_sl (vs.map (ax_v ad)) := by simp [lg_sl]
    rw [h, List.length_append, ih]
    cases u <;> simp [ax_ar, ax_v, Value.category] <;> omega
theorem ax_L.en (ad : Nat → Nat) (vs : List Value) {n : Nat} (h : (ax_ar vs).length ≤ n) : ax_L ((lg_sl (vs.map (ax_v ad)) ++ List.replicate (n - (lg_sl (vs.map (ax_v ad))).length) Slot.unset).toArray) n ad (ax_en n vs) := by
  have h0 := lv_entry (vs.map (ax_v ad)) (n := n) (by rw [ax_ar_len]; exact h)
  refine ⟨h0.1, h0.2.1, fun i v hi => ?_⟩
  unfold ax_en at hi
  by_cases hl : i < (ax_ar vs).length
  · rw [List.getElem?_append_left hl] at hi
    have := ax_ar_in ad vs 0 i v hi
    rw [Nat.zero_add] at this
    exact h0.2.2 _ this
  · rw [List.getElem?_append_right (by omega), List.getElem?_replicate] at hi
    split at hi <;> cases hi
/-! the judgement: what W says, of every heap that holds the world -/
def av_K (p : Program) (s : State) (m : MethodId) (args : Array Value) (meth : Method) (c : Code) (D : va_G) (cl : List vw_C) (ca : Nat → Nat) (A : Nat → Prop) (cc : ByteArray) (nL : Nat) (own : String) (Ts : List Cond) : Prop :=
  p.tables.exec = Jvm.exec ∧ c.code = cc ∧ c.maxLocals = nL ∧ s.vm.findClass own = some m.cls ∧ (∀ w ∈ Ts, w.before args s = true) ∧ va_K D cl (ax_ty ca) s ∧ (∀ q : Nat, s.heap.size ≤ q → A q) ∧ meth.locks = false
def av_V (p : Program) (l : Launch) (e : Env) (R : Room) (s : State) (m : MethodId) (args : Array Value) (below : List Frame) (meth : Method) (c : Code) (D : va_G) (cl : List vw_C) (A : Nat → Prop) (ad ca : Nat → Nat) (nL : Nat) (Q : State → Prop) (cells slots pc : Nat) (L : List (Option Value)) (st : List Value) (w : List va_E) : Prop :=
  ∀ (H : Heap) (locs : List Loc) (ls : Array Slot), va_P D cl (ax_W ad ca w) H → va_D A (ax_W ad ca w) → va_S A s.heap H locs → ax_L ls nL ad L → W p l e R s m args below meth c H locs cells slots Q (F0 m pc ls (st.map (ax_v ad)))
section AV
variable {p : Program} {l : Launch} {e : Env} {R : Room} {s : State} {m : MethodId} {args : Array Value} {below : List Frame} {meth : Method} {c : Code} {cells slots : Nat} {Q : State → Prop}
variable {D : va_G} {cl : List vw_C} {A : Nat → Prop} {ad ca : Nat → Nat} {cc : ByteArray} {nL : Nat} {own : String} {Ts : List Cond}
variable {pc : Nat} {L L' : List (Option Value)} {st : List Value} {w w' : List va_E}

theorem av_iconst (K : av_K p s m args meth c D cl ca A cc nL own Ts) {n : Int} {v : Int32} (hd : decode cc pc = .ok (.iconst n, 1)) (hv : Int32.ofInt n = v) (k : av_V p l e R s m args below meth c D cl A ad ca nL Q cells slots (pc + 1) L (.int v :: st) w) : av_V p l e R s m args below meth c D cl A ad ca nL Q cells slots pc L (st) w := fun H locs ls hP hD hS hL => lv_iconst K.1 K.2.1 hd hv (k H locs ls hP hD hS hL)
theorem av_bipush (K : av_K p s m args meth c D cl ca A cc nL own Ts) {n : Int} {v : Int32} (hd : decode cc pc = .ok (.bipush n, 2)) (hv : (Int8.ofInt n).toInt32 = v) (k : av_V p l e R s m args below meth c D cl A ad ca nL Q cells slots (pc + 2) L (.int v :: st) w) : av_V p l e R s m args below meth c D cl A ad ca nL Q cells slots pc L (st) w := fun H locs ls hP hD hS hL => lv_bipush K.1 K.2.1 hd hv (k H locs ls hP hD hS hL)
theorem av_sipush (K : av_K p s m args meth c D cl ca A cc nL own Ts) {n : Int} {v : Int32} (hd : decode cc pc = .ok (.sipush n, 3)) (hv : (Int16.ofInt n).toInt32 = v) (k : av_V p l e R s m args below meth c D cl A ad ca nL Q cells slots (pc + 3) L (.int v :: st) w) : av_V p l e R s m args below meth c D cl A ad ca nL Q cells slots pc L (st) w := fun H locs ls hP hD hS hL => lv_sipush K.1 K.2.1 hd hv (k H locs ls hP hD hS hL)
theorem av_lconst (K : av_K p s m args meth c D cl ca A cc nL own Ts) {n : Fin 2} {v : Int64} (hd : decode cc pc = .ok (.lconst n, 1)) (hv : Int64.ofNat (n : Nat) = v) (k : av_V p l e R s m args below meth c D cl A ad ca nL Q cells slots (pc + 1) L (.long v :: st) w) : av_V p l e R s m args below meth c D cl A ad ca nL Q cells slots pc L (st) w := fun H locs ls hP hD hS hL => lv_lconst K.1 K.2.1 hd hv (k H locs ls hP hD hS hL)
theorem av_iload_n (K : av_K p s m args meth c D cl ca A cc nL own Ts) {k0 : Fin 4} {i : Nat} {x : Int32} (hd : decode cc pc = .ok (.iload_n k0, 1)) (hi : (k0 : Nat) = i) (hl : L[i]? = some (some (.int x))) (k : av_V p l e R s m args below meth c D cl A ad ca nL Q cells slots (pc + 1) L (.int x :: st) w) : av_V p l e R s m args below meth c D cl A ad ca nL Q cells slots pc L (st) w := fun H locs ls hP hD hS hL => lv_iload_n K.1 K.2.1 hd hi (hL.2.2 i _ hl) (k H locs ls hP hD hS hL)
theorem av_iload (K : av_K p s m args meth c D cl ca A cc nL own Ts) {i : Nat} {x : Int32} (hd : decode cc pc = .ok (.iload i, 2)) (hl : L[i]? = some (some (.int x))) (k : av_V p l e R s m args below meth c D cl A ad ca nL Q cells slots (pc + 2) L (.int x :: st) w) : av_V p l e R s m args below meth c D cl A ad ca nL Q cells slots pc L (st) w := fun H locs ls hP hD hS hL => lv_iload K.1 K.2.1 hd (hL.2.2 i _ hl) (k H locs ls hP hD hS hL)
theorem av_istore_n (K : av_K p s m args meth c D cl ca A cc nL own Ts) {k0 : Fin 4} {i : Nat} {x : Int32} (hd : decode cc pc = .ok (.istore_n k0, 1)) (hi : (k0 : Nat) = i) (hn : i < nL) (hl : ax_s1 L i (.int x) = L') (k : av_V p l e R s m args below meth c D cl A ad ca nL Q cells slots (pc + 1) L' st w) : av_V p l e R s m args below meth c D cl A ad ca nL Q cells slots pc L (.int x :: st) w := fun H locs ls hP hD hS hL => lv_istore_n K.1 K.2.1 hd hi hL.has hn rfl (fun ls' h' => k H locs ls' hP hD hS (hl ▸ ax_L.s1 (v := .int x) h'))
theorem av_istore (K : av_K p s m args meth c D cl ca A cc nL own Ts) {i : Nat} {x : Int32} (hd : decode cc pc = .ok (.istore i, 2)) (hn : i < nL) (hl : ax_s1 L i (.int x) = L') (k : av_V p l e R s m args below meth c D cl A ad ca nL Q cells slots (pc + 2) L' st w) : av_V p l e R s m args below meth c D cl A ad ca nL Q cells slots pc L (.int x :: st) w := fun H locs ls hP hD hS hL => lv_istore K.1 K.2.1 hd hL.has hn rfl (fun ls' h' => k H locs ls' hP hD hS (hl ▸ ax_L.s1 (v := .int x) h'))
theorem av_lload_n (K : av_K p s m args meth c D cl ca A cc nL own Ts) {k0 : Fin 4} {i : Nat} {x : Int64} (hd : decode cc pc = .ok (.lload_n k0, 1)) (hi : (k0 : Nat) = i) (hl : L[i]? = some (some (.long x))) (k : av_V p l e R s m args below meth c D cl A ad ca nL Q cells slots (pc + 1) L (.long x :: st) w) : av_V p l e R s m args below meth c D cl A ad ca nL Q cells slots pc L (st) w := fun H locs ls hP hD hS hL => lv_lload_n K.1 K.2.1 hd hi (hL.2.2 i _ hl) (k H locs ls hP hD hS hL)
theorem av_lload (K : av_K p s m args meth c D cl ca A cc nL own Ts) {i : Nat} {x : Int64} (hd : decode cc pc = .ok (.lload i, 2)) (hl : L[i]? = some (some (.long x))) (k : av_V p l e R s m args below meth c D cl A ad ca nL Q cells slots (pc + 2) L (.long x :: st) w) : av_V p l e R s m args below meth c D cl A ad ca nL Q cells slots pc L (st) w := fun H locs ls hP hD hS hL => lv_lload K.1 K.2.1 hd (hL.2.2 i _ hl) (k H locs ls hP hD hS hL)
theorem av_lstore_n (K : av_K p s m args meth c D cl ca A cc nL own Ts) {k0 : Fin 4} {i : Nat} {x : Int64} (hd : decode cc pc = .ok (.lstore_n k0, 1)) (hi : (k0 : Nat) = i) (hn : i + 1 < nL) (hl : ax_s2 L i (.long x) = L') (k : av_V p l e R s m args below meth c D cl A ad ca nL Q cells slots (pc + 1) L' st w) : av_V p l e R s m args below meth c D cl A ad ca nL Q cells slots pc L (.long x :: st) w := fun H locs ls hP hD hS hL => lv_lstore_n K.1 K.2.1 hd hi hL.has hn rfl (fun ls' h' => k H locs ls' hP hD hS (hl ▸ ax_L.s2 (v := .long x) h'))
theorem av_lstore (K : av_K p s m args meth c D cl ca A cc nL own Ts) {i : Nat} {x : Int64} (hd : decode cc pc = .ok (.lstore i, 2)) (hn : i + 1 < nL) (hl : ax_s2 L i (.long x) = L') (k : av_V p l e R s m args below meth c D cl A ad ca nL Q cells slots (pc + 2) L' st w) : av_V p l e R s m args below meth c D cl A ad ca nL Q cells slots pc L (.long x :: st) w := fun H locs ls hP hD hS hL => lv_lstore K.1 K.2.1 hd hL.has hn rfl (fun ls' h' => k H locs ls' hP hD hS (hl ▸ ax_L.s2 (v := .long x) h'))
theorem av_aload_n (K : av_K p s m args meth c D cl ca A cc nL own Ts) {k0 : Fin 4} {i : Nat} {x : Nat} (hd : decode cc pc = .ok (.aload_n k0, 1)) (hi : (k0 : Nat) = i) (hl : L[i]? = some (some (.ref x))) (k : av_V p l e R s m args below meth c D cl A ad ca nL Q cells slots (pc + 1) L (.ref x :: st) w) : av_V p l e R s m args below meth c D cl A ad ca nL Q cells slots pc L (st) w := fun H locs ls hP hD hS hL => lv_aload_n K.1 K.2.1 hd hi (hL.2.2 i _ hl) (k H locs ls hP hD hS hL)
theorem av_aload (K : av_K p s m args meth c D cl ca A cc nL own Ts) {i : Nat} {x : Nat} (hd : decode cc pc = .ok (.aload i, 2)) (hl : L[i]? = some (some (.ref x))) (k : av_V p l e R s m args below meth c D cl A ad ca nL Q cells slots (pc + 2) L (.ref x :: st) w) : av_V p l e R s m args below meth c D cl A ad ca nL Q cells slots pc L (st) w := fun H locs ls hP hD hS hL => lv_aload K.1 K.2.1 hd (hL.2.2 i _ hl) (k H locs ls hP hD hS hL)
theorem av_astore_n (K : av_K p s m args meth c D cl ca A cc nL own Ts) {k0 : Fin 4} {i : Nat} {x : Nat} (hd : decode cc pc = .ok (.astore_n k0, 1)) (hi : (k0 : Nat) = i) (hn : i < nL) (hl : ax_s1 L i (.ref x) = L') (k : av_V p l e R s m args below meth c D cl A ad ca nL Q cells slots (pc + 1) L' st w) : av_V p l e R s m args below meth c D cl A ad ca nL Q cells slots pc L (.ref x :: st) w := fun H locs ls hP hD hS hL => lv_astore_n K.1 K.2.1 hd hi hL.has hn rfl (fun ls' h' => k H locs ls' hP hD hS (hl ▸ ax_L.s1 (v := .ref x) h'))
theorem av_astore (K : av_K p s m args meth c D cl ca A cc nL own Ts) {i : Nat} {x : Nat} (hd : decode cc pc = .ok (.astore i, 2)) (hn : i < nL) (hl : ax_s1 L i (.ref x) = L') (k : av_V p l e R s m args below meth c D cl A ad ca nL Q cells slots (pc + 2) L' st w) : av_V p l e R s m args below meth c D cl A ad ca nL Q cells slots pc L (.ref x :: st) w := fun H locs ls hP hD hS hL => lv_astore K.1 K.2.1 hd hL.has hn rfl (fun ls' h' => k H locs ls' hP hD hS (hl ▸ ax_L.s1 (v := .ref x) h'))
theorem av_iinc (K : av_K p s m args meth c D cl ca A cc nL own Ts) {i : Nat} {n : Int} {x v : Int32} (hd : decode cc pc = .ok (.iinc i n, 3)) (hx : L[i]? = some (some (.int x))) (hv : x + Int32.ofInt n = v) (hn : i < nL) (hl : ax_s1 L i (.int v) = L') (k : av_V p l e R s m args below meth c D cl A ad ca nL Q cells slots (pc + 3) L' st w) : av_V p l e R s m args below meth c D cl A ad ca nL Q cells slots pc L st w := fun H locs ls hP hD hS hL => by
  have h0 : lv_has ls nL ((i, .int x) :: ax_ll ad L) := ⟨hL.1, hL.2.1, fun q hq => by
    rcases List.mem_cons.mp hq with h | h
    · subst h; exact hL.2.2 i _ hx
    · exact hL.has.2.2 q h⟩
  refine lv_iinc (k := 0) K.1 K.2.1 hd h0 rfl hv hn rfl (fun ls' h' => k H locs ls' hP hD hS (hl ▸ ax_L.s1 (v := .int v) ⟨h'.1, h'.2.1, fun q hq => h'.2.2 q ?_⟩))
  rcases List.mem_cons.mp hq with h | h
  · subst h; exact List.mem_cons_self
  · refine List.mem_cons_of_mem _ (List.mem_filter.mpr ⟨List.mem_cons_of_mem _ (List.mem_filter.mp h).1, (List.mem_filter.mp h).2⟩)
theorem av_iadd (K : av_K p s m args meth c D cl ca A cc nL own Ts) {x y : Int32} (hd : decode cc pc = .ok (.iadd, 1)) (k : av_V p l e R s m args below meth c D cl A ad ca nL Q cells slots (pc + 1) L (.int (x + y) :: st) w) : av_V p l e R s m args below meth c D cl A ad ca nL Q cells slots pc L (.int y :: .int x :: st) w := fun H locs ls hP hD hS hL => lv_iadd K.1 K.2.1 hd (k H locs ls hP hD hS hL)
theorem av_isub (K : av_K p s m args meth c D cl ca A cc nL own Ts) {x y : Int32} (hd : decode cc pc = .ok (.isub, 1)) (k : av_V p l e R s m args below meth c D cl A ad ca nL Q cells slots (pc + 1) L (.int (x - y) :: st) w) : av_V p l e R s m args below meth c D cl A ad ca nL Q cells slots pc L (.int y :: .int x :: st) w := fun H locs ls hP hD hS hL => lv_isub K.1 K.2.1 hd (k H locs ls hP hD hS hL)
theorem av_imul (K : av_K p s m args meth c D cl ca A cc nL own Ts) {x y : Int32} (hd : decode cc pc = .ok (.imul, 1)) (k : av_V p l e R s m args below meth c D cl A ad ca nL Q cells slots (pc + 1) L (.int (x * y) :: st) w) : av_V p l e R s m args below meth c D cl A ad ca nL Q cells slots pc L (.int y :: .int x :: st) w := fun H locs ls hP hD hS hL => lv_imul K.1 K.2.1 hd (k H locs ls hP hD hS hL)
theorem av_iand (K : av_K p s m args meth c D cl ca A cc nL own Ts) {x y : Int32} (hd : decode cc pc = .ok (.iand, 1)) (k : av_V p l e R s m args below meth c D cl A ad ca nL Q cells slots (pc + 1) L (.int (x &&& y) :: st) w) : av_V p l e R s m args below meth c D cl A ad ca nL Q cells slots pc L (.int y :: .int x :: st) w := fun H locs ls hP hD hS hL => lv_iand K.1 K.2.1 hd (k H locs ls hP hD hS hL)
theorem av_ior (K : av_K p s m args meth c D cl ca A cc nL own Ts) {x y : Int32} (hd : decode cc pc = .ok (.ior, 1)) (k : av_V p l e R s m args below meth c D cl A ad ca nL Q cells slots (pc + 1) L (.int (x ||| y) :: st) w) : av_V p l e R s m args below meth c D cl A ad ca nL Q cells slots pc L (.int y :: .int x :: st) w := fun H locs ls hP hD hS hL => lv_ior K.1 K.2.1 hd (k H locs ls hP hD hS hL)
theorem av_ixor (K : av_K p s m args meth c D cl ca A cc nL own Ts) {x y : Int32} (hd : decode cc pc = .ok (.ixor, 1)) (k : av_V p l e R s m args below meth c D cl A ad ca nL Q cells slots (pc + 1) L (.int (x ^^^ y) :: st) w) : av_V p l e R s m args below meth c D cl A ad ca nL Q cells slots pc L (.int y :: .int x :: st) w := fun H locs ls hP hD hS hL => lv_ixor K.1 K.2.1 hd (k H locs ls hP hD hS hL)
theorem av_ishl (K : av_K p s m args meth c D cl ca A cc nL own Ts) {x y : Int32} (hd : decode cc pc = .ok (.ishl, 1)) (k : av_V p l e R s m args below meth c D cl A ad ca nL Q cells slots (pc + 1) L (.int (x <<< (y &&& 31)) :: st) w) : av_V p l e R s m args below meth c D cl A ad ca nL Q cells slots pc L (.int y :: .int x :: st) w := fun H locs ls hP hD hS hL => lv_ishl K.1 K.2.1 hd (k H locs ls hP hD hS hL)
theorem av_ishr (K : av_K p s m args meth c D cl ca A cc nL own Ts) {x y : Int32} (hd : decode cc pc = .ok (.ishr, 1)) (k : av_V p l e R s m args below meth c D cl A ad ca nL Q cells slots (pc + 1) L (.int (x >>> (y &&& 31)) :: st) w) : av_V p l e R s m args below meth c D cl A ad ca nL Q cells slots pc L (.int y :: .int x :: st) w := fun H locs ls hP hD hS hL => lv_ishr K.1 K.2.1 hd (k H locs ls hP hD hS hL)
theorem av_idiv (K : av_K p s m args meth c D cl ca A cc nL own Ts) {x y : Int32} (hd : decode cc pc = .ok (.idiv, 1)) (hne : ¬ y = 0) (k : av_V p l e R s m args below meth c D cl A ad ca nL Q cells slots (pc + 1) L (.int (x / y) :: st) w) : av_V p l e R s m args below meth c D cl A ad ca nL Q cells slots pc L (.int y :: .int x :: st) w := fun H locs ls hP hD hS hL => lv_idiv K.1 K.2.1 hd hne (k H locs ls hP hD hS hL)
theorem av_irem (K : av_K p s m args meth c D cl ca A cc nL own Ts) {x y : Int32} (hd : decode cc pc = .ok (.irem, 1)) (hne : ¬ y = 0) (k : av_V p l e R s m args below meth c D cl A ad ca nL Q cells slots (pc + 1) L (.int (x - x / y * y) :: st) w) : av_V p l e R s m args below meth c D cl A ad ca nL Q cells slots pc L (.int y :: .int x :: st) w := fun H locs ls hP hD hS hL => lv_irem K.1 K.2.1 hd hne (k H locs ls hP hD hS hL)
theorem av_ladd (K : av_K p s m args meth c D cl ca A cc nL own Ts) {x y : Int64} (hd : decode cc pc = .ok (.ladd, 1)) (k : av_V p l e R s m args below meth c D cl A ad ca nL Q cells slots (pc + 1) L (.long (x + y) :: st) w) : av_V p l e R s m args below meth c D cl A ad ca nL Q cells slots pc L (.long y :: .long x :: st) w := fun H locs ls hP hD hS hL => lv_ladd K.1 K.2.1 hd (k H locs ls hP hD hS hL)
theorem av_lsub (K : av_K p s m args meth c D cl ca A cc nL own Ts) {x y : Int64} (hd : decode cc pc = .ok (.lsub, 1)) (k : av_V p l e R s m args below meth c D cl A ad ca nL Q cells slots (pc + 1) L (.long (x - y) :: st) w) : av_V p l e R s m args below meth c D cl A ad ca nL Q cells slots pc L (.long y :: .long x :: st) w := fun H locs ls hP hD hS hL => lv_lsub K.1 K.2.1 hd (k H locs ls hP hD hS hL)
theorem av_lmul (K : av_K p s m args meth c D cl ca A cc nL own Ts) {x y : Int64} (hd : decode cc pc = .ok (.lmul, 1)) (k : av_V p l e R s m args below meth c D cl A ad ca nL Q cells slots (pc + 1) L (.long (x * y) :: st) w) : av_V p l e R s m args below meth c D cl A ad ca nL Q cells slots pc L (.long y :: .long x :: st) w := fun H locs ls hP hD hS hL => lv_lmul K.1 K.2.1 hd (k H locs ls hP hD hS hL)
theorem av_land (K : av_K p s m args meth c D cl ca A cc nL own Ts) {x y : Int64} (hd : decode cc pc = .ok (.land, 1)) (k : av_V p l e R s m args below meth c D cl A ad ca nL Q cells slots (pc + 1) L (.long (x &&& y) :: st) w) : av_V p l e R s m args below meth c D cl A ad ca nL Q cells slots pc L (.long y :: .long x :: st) w := fun H locs ls hP hD hS hL => lv_land K.1 K.2.1 hd (k H locs ls hP hD hS hL)
theorem av_lor (K : av_K p s m args meth c D cl ca A cc nL own Ts) {x y : Int64} (hd : decode cc pc = .ok (.lor, 1)) (k : av_V p l e R s m args below meth c D cl A ad ca nL Q cells slots (pc + 1) L (.long (x ||| y) :: st) w) : av_V p l e R s m args below meth c D cl A ad ca nL Q cells slots pc L (.long y :: .long x :: st) w := fun H locs ls hP hD hS hL => lv_lor K.1 K.2.1 hd (k H locs ls hP hD hS hL)
theorem av_lxor (K : av_K p s m args meth c D cl ca A cc nL own Ts) {x y : Int64} (hd : decode cc pc = .ok (.lxor, 1)) (k : av_V p l e R s m args below meth c D cl A ad ca nL Q cells slots (pc + 1) L (.long (x ^^^ y) :: st) w) : av_V p l e R s m args below meth c D cl A ad ca nL Q cells slots pc L (.long y :: .long x :: st) w := fun H locs ls hP hD hS hL => lv_lxor K.1 K.2.1 hd (k H locs ls hP hD hS hL)
theorem av_lneg (K : av_K p s m args meth c D cl ca A cc nL own Ts) {x : Int64} (hd : decode cc pc = .ok (.lneg, 1)) (k : av_V p l e R s m args below meth c D cl A ad ca nL Q cells slots (pc + 1) L (.long (-x) :: st) w) : av_V p l e R s m args below meth c D cl A ad ca nL Q cells slots pc L (.long x :: st) w := fun H locs ls hP hD hS hL => lv_lneg K.1 K.2.1 hd (k H locs ls hP hD hS hL)
theorem av_i2l (K : av_K p s m args meth c D cl ca A cc nL own Ts) {x : Int32} (hd : decode cc pc = .ok (.i2l, 1)) (k : av_V p l e R s m args below meth c D cl A ad ca nL Q cells slots (pc + 1) L (.long x.toInt64 :: st) w) : av_V p l e R s m args below meth c D cl A ad ca nL Q cells slots pc L (.int x :: st) w := fun H locs ls hP hD hS hL => lv_i2l K.1 K.2.1 hd rfl (k H locs ls hP hD hS hL)
theorem av_l2i (K : av_K p s m args meth c D cl ca A cc nL own Ts) {x : Int64} (hd : decode cc pc = .ok (.l2i, 1)) (k : av_V p l e R s m args below meth c D cl A ad ca nL Q cells slots (pc + 1) L (.int x.toInt32 :: st) w) : av_V p l e R s m args below meth c D cl A ad ca nL Q cells slots pc L (.long x :: st) w := fun H locs ls hP hD hS hL => lv_l2i K.1 K.2.1 hd rfl (k H locs ls hP hD hS hL)
theorem av_lushr (K : av_K p s m args meth c D cl ca A cc nL own Ts) {x : Int64} {y : Int32} (hd : decode cc pc = .ok (.lushr, 1)) (k : av_V p l e R s m args below meth c D cl A ad ca nL Q cells slots (pc + 1) L (.long (x.toUInt64 >>> (y.toInt64.toUInt64 &&& Int64.toUInt64 63)).toInt64 :: st) w) : av_V p l e R s m args below meth c D cl A ad ca nL Q cells slots pc L (.int y :: .long x :: st) w := fun H locs ls hP hD hS hL => lv_lushr K.1 K.2.1 hd rfl (k H locs ls hP hD hS hL)
theorem av_lshl (K : av_K p s m args meth c D cl ca A cc nL own Ts) {x : Int64} {y : Int32} (hd : decode cc pc = .ok (.lshl, 1)) (k : av_V p l e R s m args below meth c D cl A ad ca nL Q cells slots (pc + 1) L (.long (x <<< (y.toInt64 &&& 63)) :: st) w) : av_V p l e R s m args below meth c D cl A ad ca nL Q cells slots pc L (.int y :: .long x :: st) w := fun H locs ls hP hD hS hL => lv_lshl K.1 K.2.1 hd rfl (k H locs ls hP hD hS hL)
theorem av_lshr (K : av_K p s m args meth c D cl ca A cc nL own Ts) {x : Int64} {y : Int32} (hd : decode cc pc = .ok (.lshr, 1)) (k : av_V p l e R s m args below meth c D cl A ad ca nL Q cells slots (pc + 1) L (.long (x >>> (y.toInt64 &&& 63)) :: st) w) : av_V p l e R s m args below meth c D cl A ad ca nL Q cells slots pc L (.int y :: .long x :: st) w := fun H locs ls hP hD hS hL => lv_lshr K.1 K.2.1 hd rfl (k H locs ls hP hD hS hL)
theorem av_lcmp (K : av_K p s m args meth c D cl ca A cc nL own Ts) {x y : Int64} (hd : decode cc pc = .ok (.lcmp, 1)) (k : av_V p l e R s m args below meth c D cl A ad ca nL Q cells slots (pc + 1) L (.int (lg_cmp x y) :: st) w) : av_V p l e R s m args below meth c D cl A ad ca nL Q cells slots pc L (.long y :: .long x :: st) w := fun H locs ls hP hD hS hL => W.lcmp K.1 K.2.1 hd (k H locs ls hP hD hS hL)
theorem av_dup (K : av_K p s m args meth c D cl ca A cc nL own Ts) {va : Value} (hd : decode cc pc = .ok (.dup, 1)) (hva : va.category = 1) (k : av_V p l e R s m args below meth c D cl A ad ca nL Q cells slots (pc + 1) L (va :: va :: st) w) : av_V p l e R s m args below meth c D cl A ad ca nL Q cells slots pc L (va :: st) w := fun H locs ls hP hD hS hL => lv_dup K.1 K.2.1 hd (by rw [ax_v_cat]; exact hva) (k H locs ls hP hD hS hL)
theorem av_dup2 (K : av_K p s m args meth c D cl ca A cc nL own Ts) {va vb : Value} (hd : decode cc pc = .ok (.dup2, 1)) (hva : va.category = 1) (hvb : vb.category = 1) (k : av_V p l e R s m args below meth c D cl A ad ca nL Q cells slots (pc + 1) L (va :: vb :: va :: vb :: st) w) : av_V p l e R s m args below meth c D cl A ad ca nL Q cells slots pc L (va :: vb :: st) w := fun H locs ls hP hD hS hL => lv_dup2_11 K.1 K.2.1 hd (by rw [ax_v_cat]; exact hva) (by rw [ax_v_cat]; exact hvb) (k H locs ls hP hD hS hL)
theorem av_dup_x1 (K : av_K p s m args meth c D cl ca A cc nL own Ts) {va vb : Value} (hd : decode cc pc = .ok (.dup_x1, 1)) (hva : va.category = 1) (hvb : vb.category = 1) (k : av_V p l e R s m args below meth c D cl A ad ca nL Q cells slots (pc + 1) L (va :: vb :: va :: st) w) : av_V p l e R s m args below meth c D cl A ad ca nL Q cells slots pc L (va :: vb :: st) w := fun H locs ls hP hD hS hL => lv_dup_x1 K.1 K.2.1 hd (by rw [ax_v_cat]; exact hva) (by rw [ax_v_cat]; exact hvb) (k H locs ls hP hD hS hL)
theorem av_pop (K : av_K p s m args meth c D cl ca A cc nL own Ts) {va : Value} (hd : decode cc pc = .ok (.pop, 1)) (hva : va.category = 1) (k : av_V p l e R s m args below meth c D cl A ad ca nL Q cells slots (pc + 1) L (st) w) : av_V p l e R s m args below meth c D cl A ad ca nL Q cells slots pc L (va :: st) w := fun H locs ls hP hD hS hL => lv_pop K.1 K.2.1 hd (by rw [ax_v_cat]; exact hva) (k H locs ls hP hD hS hL)
theorem av_if_eq (K : av_K p s m args meth c D cl ca A cc nL own Ts) {x : Int32} {off : Int} {tgt : Nat} (hd : decode cc pc = .ok (.ifCond .eq off, 3)) (ht : (pc : Int) + off = (tgt : Int)) (kt : x = 0 → av_V p l e R s m args below meth c D cl A ad ca nL Q cells slots tgt L st w) (kf : ¬ x = 0 → av_V p l e R s m args below meth c D cl A ad ca nL Q cells slots (pc + 3) L st w) : av_V p l e R s m args below meth c D cl A ad ca nL Q cells slots pc L (.int x :: st) w := fun H locs ls hP hD hS hL => lv_if_eq K.1 K.2.1 hd ht (fun h => kt h H locs ls hP hD hS hL) (fun h => kf h H locs ls hP hD hS hL)
theorem av_icmp_eq (K : av_K p s m args meth c D cl ca A cc nL own Ts) {x y : Int32} {off : Int} {tgt : Nat} (hd : decode cc pc = .ok (.if_icmp .eq off, 3)) (ht : (pc : Int) + off = (tgt : Int)) (kt : x = y → av_V p l e R s m args below meth c D cl A ad ca nL Q cells slots tgt L st w) (kf : ¬ x = y → av_V p l e R s m args below meth c D cl A ad ca nL Q cells slots (pc + 3) L st w) : av_V p l e R s m args below meth c D cl A ad ca nL Q cells slots pc L (.int y :: .int x :: st) w := fun H locs ls hP hD hS hL => lv_icmp_eq K.1 K.2.1 hd ht (fun h => kt h H locs ls hP hD hS hL) (fun h => kf h H locs ls hP hD hS hL)
theorem av_if_ne (K : av_K p s m args meth c D cl ca A cc nL own Ts) {x : Int32} {off : Int} {tgt : Nat} (hd : decode cc pc = .ok (.ifCond .ne off, 3)) (ht : (pc : Int) + off = (tgt : Int)) (kt : ¬ x = 0 → av_V p l e R s m args below meth c D cl A ad ca nL Q cells slots tgt L st w) (kf : x = 0 → av_V p l e R s m args below meth c D cl A ad ca nL Q cells slots (pc + 3) L st w) : av_V p l e R s m args below meth c D cl A ad ca nL Q cells slots pc L (.int x :: st) w := fun H locs ls hP hD hS hL => lv_if_ne K.1 K.2.1 hd ht (fun h => kt h H locs ls hP hD hS hL) (fun h => kf h H locs ls hP hD hS hL)
theorem av_icmp_ne (K : av_K p s m args meth c D cl ca A cc nL own Ts) {x y : Int32} {off : Int} {tgt : Nat} (hd : decode cc pc = .ok (.if_icmp .ne off, 3)) (ht : (pc : Int) + off = (tgt : Int)) (kt : ¬ x = y → av_V p l e R s m args below meth c D cl A ad ca nL Q cells slots tgt L st w) (kf : x = y → av_V p l e R s m args below meth c D cl A ad ca nL Q cells slots (pc + 3) L st w) : av_V p l e R s m args below meth c D cl A ad ca nL Q cells slots pc L (.int y :: .int x :: st) w := fun H locs ls hP hD hS hL => lv_icmp_ne K.1 K.2.1 hd ht (fun h => kt h H locs ls hP hD hS hL) (fun h => kf h H locs ls hP hD hS hL)
theorem av_if_lt (K : av_K p s m args meth c D cl ca A cc nL own Ts) {x : Int32} {off : Int} {tgt : Nat} (hd : decode cc pc = .ok (.ifCond .lt off, 3)) (ht : (pc : Int) + off = (tgt : Int)) (kt : x < 0 → av_V p l e R s m args below meth c D cl A ad ca nL Q cells slots tgt L st w) (kf : ¬ x < 0 → av_V p l e R s m args below meth c D cl A ad ca nL Q cells slots (pc + 3) L st w) : av_V p l e R s m args below meth c D cl A ad ca nL Q cells slots pc L (.int x :: st) w := fun H locs ls hP hD hS hL => lv_if_lt K.1 K.2.1 hd ht (fun h => kt h H locs ls hP hD hS hL) (fun h => kf h H locs ls hP hD hS hL)
theorem av_icmp_lt (K : av_K p s m args meth c D cl ca A cc nL own Ts) {x y : Int32} {off : Int} {tgt : Nat} (hd : decode cc pc = .ok (.if_icmp .lt off, 3)) (ht : (pc : Int) + off = (tgt : Int)) (kt : x < y → av_V p l e R s m args below meth c D cl A ad ca nL Q cells slots tgt L st w) (kf : ¬ x < y → av_V p l e R s m args below meth c D cl A ad ca nL Q cells slots (pc + 3) L st w) : av_V p l e R s m args below meth c D cl A ad ca nL Q cells slots pc L (.int y :: .int x :: st) w := fun H locs ls hP hD hS hL => lv_icmp_lt K.1 K.2.1 hd ht (fun h => kt h H locs ls hP hD hS hL) (fun h => kf h H locs ls hP hD hS hL)
theorem av_if_ge (K : av_K p s m args meth c D cl ca A cc nL own Ts) {x : Int32} {off : Int} {tgt : Nat} (hd : decode cc pc = .ok (.ifCond .ge off, 3)) (ht : (pc : Int) + off = (tgt : Int)) (kt : 0 ≤ x → av_V p l e R s m args below meth c D cl A ad ca nL Q cells slots tgt L st w) (kf : ¬ 0 ≤ x → av_V p l e R s m args below meth c D cl A ad ca nL Q cells slots (pc + 3) L st w) : av_V p l e R s m args below meth c D cl A ad ca nL Q cells slots pc L (.int x :: st) w := fun H locs ls hP hD hS hL => lv_if_ge K.1 K.2.1 hd ht (fun h => kt h H locs ls hP hD hS hL) (fun h => kf h H locs ls hP hD hS hL)
theorem av_icmp_ge (K : av_K p s m args meth c D cl ca A cc nL own Ts) {x y : Int32} {off : Int} {tgt : Nat} (hd : decode cc pc = .ok (.if_icmp .ge off, 3)) (ht : (pc : Int) + off = (tgt : Int)) (kt : y ≤ x → av_V p l e R s m args below meth c D cl A ad ca nL Q cells slots tgt L st w) (kf : ¬ y ≤ x → av_V p l e R s m args below meth c D cl A ad ca nL Q cells slots (pc + 3) L st w) : av_V p l e R s m args below meth c D cl A ad ca nL Q cells slots pc L (.int y :: .int x :: st) w := fun H locs ls hP hD hS hL => lv_icmp_ge K.1 K.2.1 hd ht (fun h => kt h H locs ls hP hD hS hL) (fun h => kf h H locs ls hP hD hS hL)
theorem av_if_gt (K : av_K p s m args meth c D cl ca A cc nL own Ts) {x : Int32} {off : Int} {tgt : Nat} (hd : decode cc pc = .ok (.ifCond .gt off, 3)) (ht : (pc : Int) + off = (tgt : Int)) (kt : 0 < x → av_V p l e R s m args below meth c D cl A ad ca nL Q cells slots tgt L st w) (kf : ¬ 0 < x → av_V p l e R s m args below meth c D cl A ad ca nL Q cells slots (pc + 3) L st w) : av_V p l e R s m args below meth c D cl A ad ca nL Q cells slots pc L (.int x :: st) w := fun H locs ls hP hD hS hL => lv_if_gt K.1 K.2.1 hd ht (fun h => kt h H locs ls hP hD hS hL) (fun h => kf h H locs ls hP hD hS hL)
theorem av_icmp_gt (K : av_K p s m args meth c D cl ca A cc nL own Ts) {x y : Int32} {off : Int} {tgt : Nat} (hd : decode cc pc = .ok (.if_icmp .gt off, 3)) (ht : (pc : Int) + off = (tgt : Int)) (kt : y < x → av_V p l e R s m args below meth c D cl A ad ca nL Q cells slots tgt L st w) (kf : ¬ y < x → av_V p l e R s m args below meth c D cl A ad ca nL Q cells slots (pc + 3) L st w) : av_V p l e R s m args below meth c D cl A ad ca nL Q cells slots pc L (.int y :: .int x :: st) w := fun H locs ls hP hD hS hL => lv_icmp_gt K.1 K.2.1 hd ht (fun h => kt h H locs ls hP hD hS hL) (fun h => kf h H locs ls hP hD hS hL)
theorem av_if_le (K : av_K p s m args meth c D cl ca A cc nL own Ts) {x : Int32} {off : Int} {tgt : Nat} (hd : decode cc pc = .ok (.ifCond .le off, 3)) (ht : (pc : Int) + off = (tgt : Int)) (kt : x ≤ 0 → av_V p l e R s m args below meth c D cl A ad ca nL Q cells slots tgt L st w) (kf : ¬ x ≤ 0 → av_V p l e R s m args below meth c D cl A ad ca nL Q cells slots (pc + 3) L st w) : av_V p l e R s m args below meth c D cl A ad ca nL Q cells slots pc L (.int x :: st) w := fun H locs ls hP hD hS hL => lv_if_le K.1 K.2.1 hd ht (fun h => kt h H locs ls hP hD hS hL) (fun h => kf h H locs ls hP hD hS hL)
theorem av_icmp_le (K : av_K p s m args meth c D cl ca A cc nL own Ts) {x y : Int32} {off : Int} {tgt : Nat} (hd : decode cc pc = .ok (.if_icmp .le off, 3)) (ht : (pc : Int) + off = (tgt : Int)) (kt : x ≤ y → av_V p l e R s m args below meth c D cl A ad ca nL Q cells slots tgt L st w) (kf : ¬ x ≤ y → av_V p l e R s m args below meth c D cl A ad ca nL Q cells slots (pc + 3) L st w) : av_V p l e R s m args below meth c D cl A ad ca nL Q cells slots pc L (.int y :: .int x :: st) w := fun H locs ls hP hD hS hL => lv_icmp_le K.1 K.2.1 hd ht (fun h => kt h H locs ls hP hD hS hL) (fun h => kf h H locs ls hP hD hS hL)
theorem av_goto (K : av_K p s m args meth c D cl ca A cc nL own Ts) {off : Int} {tgt : Nat} (hd : decode cc pc = .ok (.goto off, 3)) (ht : (pc : Int) + off = (tgt : Int)) (k : av_V p l e R s m args below meth c D cl A ad ca nL Q cells slots tgt L st w) : av_V p l e R s m args below meth c D cl A ad ca nL Q cells slots pc L st w := fun H locs ls hP hD hS hL => lv_goto K.1 K.2.1 hd ht (k H locs ls hP hD hS hL)
theorem av_ldc2 (K : av_K p s m args meth c D cl ca A cc nL own Ts) {index : Nat} {v : Int64} (hc : Cond.constantLong own index v ∈ Ts) (hd : decode cc pc = .ok (.ldc2_w index, 3)) (k : av_V p l e R s m args below meth c D cl A ad ca nL Q cells slots (pc + 3) L (.long v :: st) w) : av_V p l e R s m args below meth c D cl A ad ca nL Q cells slots pc L st w := fun H locs ls hP hD hS hL => lv_ldc2 K.1 K.2.1 K.2.2.2.1 (K.2.2.2.2.1 _ hc) hd (k H locs ls hP hD hS hL)
theorem av_ldc (K : av_K p s m args meth c D cl ca A cc nL own Ts) {index : Nat} {v : Int32} (hc : Cond.constant own index v ∈ Ts) (hd : decode cc pc = .ok (.ldc index, 2)) (k : av_V p l e R s m args below meth c D cl A ad ca nL Q cells slots (pc + 2) L (.int v :: st) w) : av_V p l e R s m args below meth c D cl A ad ca nL Q cells slots pc L st w := fun H locs ls hP hD hS hL => lv_ldc K.1 K.2.1 K.2.2.2.1 (K.2.2.2.2.1 _ hc) hd (k H locs ls hP hD hS hL)
theorem av_eq {pc' : Nat} {st' : List Value} (h1 : pc = pc') (h2 : L = L') (h3 : st = st') (h4 : w = w') (k : av_V p l e R s m args below meth c D cl A ad ca nL Q cells slots pc' L' st' w') : av_V p l e R s m args below meth c D cl A ad ca nL Q cells slots pc L st w := by subst h1; subst h2; subst h3; subst h4; exact k
/-- what an entry of a class's pool says of a field: class number ci, slot kf -/
def av_F (own : String) (Ts : List Cond) (cl : List vw_C) (index ci kf : Nat) : Prop := ∃ (C : String) (T : u_T) (N : Nat), cl[ci]? = some (C, T, N) ∧ kf < N ∧ (∀ w ∈ u_ws C T N, w ∈ Ts) ∧ Cond.fieldLink own index (T kf).1 (T kf).2.1 (T kf).2.2.1 ∈ Ts
def av_FN (own host : String) (Ts Ns : List Cond) (cl : List vw_C) (index ci kf : Nat) : Prop := ∃ (C : String) (T : u_T) (N : Nat), cl[ci]? = some (C, T, N) ∧ kf < N ∧ (∀ w ∈ u_ws C T N, w ∈ Ts) ∧ Cond.fieldLinkNest own index (T kf).1 (T kf).2.1 (T kf).2.2.1 host ∈ Ns
def av_FP (own : String) (Ts : List Cond) (cl : List vw_C) (index ci kf : Nat) (ty : FieldType) : Prop := ∃ (C : String) (T : u_T) (N : Nat) (ty0 : Nat → FieldType), cl[ci]? = some (C, T, N) ∧ kf < N ∧ (∀ w ∈ u_ws C T N, w ∈ Ts) ∧ Cond.fieldLink own index (T kf).1 (T kf).2.1 (T kf).2.2.1 ∈ Ts ∧
  (∀ k, k < N → parseFieldDescriptor (T k).2.2.1 = some (ty0 k)) ∧ (∀ a, a < N → ∀ b, b < N → a ≠ b → (T a).2.1 ≠ (T b).2.1) ∧ (T kf).2.2.2 = false ∧ parseFieldDescriptor (T kf).2.2.1 = some ty
theorem av_getf (K : av_K p s m args meth c D cl ca A cc nL own Ts) {index ci kf q : Nat} (f : av_F own Ts cl index ci kf) {fs : List Value} {v : Value} (hd : decode cc pc = .ok (.getfield index, 3)) (he : w[q]? = some (.inr (ci, fs))) (hv : fs[kf]? = some v) (k : av_V p l e R s m args below meth c D cl A ad ca nL Q cells slots (pc + 3) L (v :: st) w) : av_V p l e R s m args below meth c D cl A ad ca nL Q cells slots pc L (.ref q :: st) w := fun H locs ls hP hD hS hL => by
  obtain ⟨C, T, N, hc, hk, hin, hl⟩ := f
  exact va_get (D := D) (ci := ci) (v := ax_v ad v) (C := C) (T := T) (N := N) K.1 K.2.1 K.2.2.2.2.1 hin K.2.2.2.1 K.2.2.2.2.2.1 hP q (ax_W_at he) hc kf hk (K.2.2.2.2.1 _ hl) (fun _ h9 => h9) (by rw [List.getElem?_map, hv]; rfl) hd (k H locs ls hP hD hS hL)
theorem av_getfN (K : av_K p s m args meth c D cl ca A cc nL own Ts) {Ns : List Cond} (hN : ∀ w ∈ Ns, va_Nw w s) {index ci kf q : Nat} {host : String} (f : av_FN own host Ts Ns cl index ci kf) {fs : List Value} {v : Value} (hd : decode cc pc = .ok (.getfield index, 3)) (he : w[q]? = some (.inr (ci, fs))) (hv : fs[kf]? = some v) (k : av_V p l e R s m args below meth c D cl A ad ca nL Q cells slots (pc + 3) L (v :: st) w) : av_V p l e R s m args below meth c D cl A ad ca nL Q cells slots pc L (.ref q :: st) w := fun H locs ls hP hD hS hL => by
  obtain ⟨C, T, N, hc, hk, hin, hl⟩ := f
  exact va_getN (D := D) (ci := ci) (v := ax_v ad v) (C := C) (T := T) (N := N) K.1 K.2.1 K.2.2.2.2.1 hin K.2.2.2.1 K.2.2.2.2.2.1 hP q (ax_W_at he) hc kf hk (va_Nw.use rfl (hN _ hl)) (fun _ h9 => h9) (by rw [List.getElem?_map, hv]; rfl) hd (k H locs ls hP hD hS hL)
theorem av_putf (K : av_K p s m args meth c D cl ca A cc nL own Ts) {index ci kf q : Nat} {ty : FieldType} (f : av_FP own Ts cl index ci kf ty) {fs : List Value} {x : Int32} (hd : decode cc pc = .ok (.putfield index, 3)) (he : w[q]? = some (.inr (ci, fs))) (hn : narrow ty (.int x) = .int x) (hf : fits ty (.int x) = true) (hlen : kf < fs.length) (hw : w.set q (.inr (ci, fs.set kf (.int x))) = w') (k : av_V p l e R s m args below meth c D cl A ad ca nL Q cells slots (pc + 3) L st w') : av_V p l e R s m args below meth c D cl A ad ca nL Q cells slots pc L (.int x :: .ref q :: st) w := fun H locs ls hP hD hS hL => by
  obtain ⟨C, T, N, ty0, hc, hk, hin, hl, hty, hnm, hfin, hp⟩ := f
  have e1 : (ax_W ad ca w).set q (ad q, .inr (ci, (fs.map (ax_v ad)).set kf (.int x))) = ax_W ad ca w' := by
    rw [← hw, ← ax_W_set]
    show _ = (ax_W ad ca w).set q (ad q, .inr (ci, (fs.set kf (.int x)).map (ax_v ad)))
    rw [List.map_set]
    rfl
  refine va_put (D := D) (ci := ci) (v := .int x) (ty := ty) (C := C) (T := T) (N := N) K.1 K.2.1 K.2.2.2.2.1 hin ty0 hty hnm K.2.2.2.1 K.2.2.2.2.2.1 hP hD hS q (ax_W_at he) hc kf hk (K.2.2.2.2.1 _ hl) (fun _ h9 => h9) hfin hp hn hf (by rw [List.length_map]; exact hlen) hd (fun H1 locs1 hP1 hD1 hS1 => ?_)
  rw [e1] at hP1 hD1
  exact k H1 locs1 ls hP1 hD1 hS1 hL
theorem av_iald (K : av_K p s m args meth c D cl ca A cc nL own Ts) {q n : Nat} {f : Nat → Int32} {i : Int32} (hd : decode cc pc = .ok (.iaload, 1)) (he : w[q]? = some (.inl (0, n, .inl f))) (hin : vp_in i n) (k : av_V p l e R s m args below meth c D cl A ad ca nL Q cells slots (pc + 1) L (.int (f i.toNatClampNeg) :: st) w) : av_V p l e R s m args below meth c D cl A ad ca nL Q cells slots pc L (.int i :: .ref q :: st) w := fun H locs ls hP hD hS hL => va_iald K.1 K.2.1 K.2.2.2.2.2.1 hP q 0 (ax_W_at he) rfl hin hd (k H locs ls hP hD hS hL)
theorem av_lald (K : av_K p s m args meth c D cl ca A cc nL own Ts) {q n : Nat} {f : Nat → Int64} {i : Int32} (hd : decode cc pc = .ok (.laload, 1)) (he : w[q]? = some (.inl (1, n, .inr (.inl f)))) (hin : vp_in i n) (k : av_V p l e R s m args below meth c D cl A ad ca nL Q cells slots (pc + 1) L (.long (f i.toNatClampNeg) :: st) w) : av_V p l e R s m args below meth c D cl A ad ca nL Q cells slots pc L (.int i :: .ref q :: st) w := fun H locs ls hP hD hS hL => va_lald K.1 K.2.1 K.2.2.2.2.2.1 hP q 1 (ax_W_at he) rfl hin hd (k H locs ls hP hD hS hL)
theorem av_zald (K : av_K p s m args meth c D cl ca A cc nL own Ts) {q n : Nat} {f : Nat → Int32} {i : Int32} (hd : decode cc pc = .ok (.baload, 1)) (he : w[q]? = some (.inl (2, n, .inl f))) (hin : vp_in i n) (k : av_V p l e R s m args below meth c D cl A ad ca nL Q cells slots (pc + 1) L (.int (f i.toNatClampNeg) :: st) w) : av_V p l e R s m args below meth c D cl A ad ca nL Q cells slots pc L (.int i :: .ref q :: st) w := fun H locs ls hP hD hS hL => va_zald K.1 K.2.1 K.2.2.2.2.2.1 hP q 2 (ax_W_at he) rfl hin hd (k H locs ls hP hD hS hL)
theorem av_iast (K : av_K p s m args meth c D cl ca A cc nL own Ts) {q n : Nat} {f : Nat → Int32} {i : Int32} {x : Int32} (hd : decode cc pc = .ok (.iastore, 1)) (he : w[q]? = some (.inl (0, n, .inl f))) (hin : vp_in i n) (hw : w.set q (.inl (0, n, .inl (upd f i.toNatClampNeg x))) = w') (k : av_V p l e R s m args below meth c D cl A ad ca nL Q cells slots (pc + 1) L st w') : av_V p l e R s m args below meth c D cl A ad ca nL Q cells slots pc L (.int x :: .int i :: .ref q :: st) w := fun H locs ls hP hD hS hL => by
  have e1 : (ax_W ad ca w).set q (ad q, .inl (ca 0, n, .inl (upd f i.toNatClampNeg x))) = ax_W ad ca w' := by
    rw [← hw, ← ax_W_set]; rfl
  refine va_iast K.1 K.2.1 K.2.2.2.2.2.1 hP hD hS q 0 (ax_W_at he) rfl hin hd (fun H1 locs1 hP1 hD1 hS1 => ?_)
  rw [e1] at hP1 hD1
  exact k H1 locs1 ls hP1 hD1 hS1 hL
theorem av_last (K : av_K p s m args meth c D cl ca A cc nL own Ts) {q n : Nat} {f : Nat → Int64} {i : Int32} {x : Int64} (hd : decode cc pc = .ok (.lastore, 1)) (he : w[q]? = some (.inl (1, n, .inr (.inl f)))) (hin : vp_in i n) (hw : w.set q (.inl (1, n, .inr (.inl (vp_updL f i.toNatClampNeg x)))) = w') (k : av_V p l e R s m args below meth c D cl A ad ca nL Q cells slots (pc + 1) L st w') : av_V p l e R s m args below meth c D cl A ad ca nL Q cells slots pc L (.long x :: .int i :: .ref q :: st) w := fun H locs ls hP hD hS hL => by
  have e1 : (ax_W ad ca w).set q (ad q, .inl (ca 1, n, .inr (.inl (vp_updL f i.toNatClampNeg x)))) = ax_W ad ca w' := by
    rw [← hw, ← ax_W_set]; rfl
  refine va_last K.1 K.2.1 K.2.2.2.2.2.1 hP hD hS q 1 (ax_W_at he) rfl hin hd (fun H1 locs1 hP1 hD1 hS1 => ?_)
  rw [e1] at hP1 hD1
  exact k H1 locs1 ls hP1 hD1 hS1 hL
theorem av_zast (K : av_K p s m args meth c D cl ca A cc nL own Ts) {q n : Nat} {f : Nat → Int32} {i : Int32} {x : Int32} (hd : decode cc pc = .ok (.bastore, 1)) (he : w[q]? = some (.inl (2, n, .inl f))) (hin : vp_in i n) (hw : w.set q (.inl (2, n, .inl (upd f i.toNatClampNeg (vp_nar .boolean x)))) = w') (k : av_V p l e R s m args below meth c D cl A ad ca nL Q cells slots (pc + 1) L st w') : av_V p l e R s m args below meth c D cl A ad ca nL Q cells slots pc L (.int x :: .int i :: .ref q :: st) w := fun H locs ls hP hD hS hL => by
  have e1 : (ax_W ad ca w).set q (ad q, .inl (ca 2, n, .inl (upd f i.toNatClampNeg (vp_nar .boolean x)))) = ax_W ad ca w' := by
    rw [← hw, ← ax_W_set]; rfl
  refine va_zast K.1 K.2.1 K.2.2.2.2.2.1 hP hD hS q 2 (ax_W_at he) rfl hin hd (fun H1 locs1 hP1 hD1 hS1 => ?_)
  rw [e1] at hP1 hD1
  exact k H1 locs1 ls hP1 hD1 hS1 hL
theorem av_aald (K : av_K p s m args meth c D cl ca A cc nL own Ts) {q n j : Nat} {f : Nat → Option Nat} {i : Int32} (hd : decode cc pc = .ok (.aaload, 1)) (he : w[q]? = some (.inl (3, n, .inr (.inr (.inr (.inr f)))))) (hin : vp_in i n) (hj : f i.toNatClampNeg = some j) (k : av_V p l e R s m args below meth c D cl A ad ca nL Q cells slots (pc + 1) L (.ref j :: st) w) : av_V p l e R s m args below meth c D cl A ad ca nL Q cells slots pc L (.int i :: .ref q :: st) w := fun H locs ls hP hD hS hL => by
  have hlt : i.toNatClampNeg < n := Nat.not_le.mp fun q => hin (Or.inr q)
  have hc := hP q _ (ax_W_at he)
  refine W.aald (v := .ref (ad j)) (ty := .array .long) K.1 K.2.1 hc ((K.2.2.2.2.2.1.2 3 _ rfl).1 n (fun j => va_rf ((f j).map ad))) rfl (fun q => by cases q) (by show ¬ (i < 0 ∨ (arrV _ _ _).slots.size ≤ _); rw [arrV_size]; exact hin) ?_ rfl rfl hd (k H locs ls hP hD hS hL)
  show (arrV (ca 3) n (fun j => va_rf ((f j).map ad))).slots[i.toNatClampNeg]? = _
  rw [arrV_read _ _ hlt, hj]
  rfl
theorem av_iushr (K : av_K p s m args meth c D cl ca A cc nL own Ts) {x y : Int32} (hd : decode cc pc = .ok (.iushr, 1)) (k : av_V p l e R s m args below meth c D cl A ad ca nL Q cells slots (pc + 1) L (.int (x.toUInt32 >>> (y.toUInt32 &&& Int32.toUInt32 31)).toInt32 :: st) w) : av_V p l e R s m args below meth c D cl A ad ca nL Q cells slots pc L (.int y :: .int x :: st) w := fun H locs ls hP hD hS hL => lv_iushr K.1 K.2.1 hd rfl (k H locs ls hP hD hS hL)
theorem av_max (K : av_K p s m args meth c D cl ca A cc nL own Ts) {index : Nat} {x y : Int32} (hl : Cond.methodLink own index Lib.Math.max.name ∈ Ts) (hs : Cond.static Lib.Math.max.name ∈ Ts) (hi : Cond.initialized "java/lang/Math" ∈ Ts) (hco : Cond.code Lib.Math.max.name Lib.Math.max.code 2 (some .int) ∈ Ts) (hf : 1 ≤ R.frames) (hlo : (st.map Value.category).sum + 13 ≤ R.locals) (h1 : cells ≤ R.cells) (h2 : slots ≤ R.slots) (hd : decode cc pc = .ok (.invokestatic index, 3)) (k : av_V p l e R s m args below meth c D cl A ad ca nL Q cells slots (pc + 3) L (.int (if x < y then y else x) :: st) w) : av_V p l e R s m args below meth c D cl A ad ca nL Q cells slots pc L (.int y :: .int x :: st) w := fun H locs ls hP hD hS hL => va_mmax K.1 K.2.1 (K.2.2.1.trans hL.1.symm) K.2.2.2.1 (K.2.2.2.2.1 _ hl) (K.2.2.2.2.1 _ hs) (K.2.2.2.2.1 _ hi) (K.2.2.2.2.1 _ hco) hf (by rw [List.map_map]; simpa [Function.comp_def, ax_v_cat] using hlo) h1 h2 hd (k H locs ls hP hD hS hL)
end AV
end
section
/-! contracts over abstract worlds: the class's nest words and the table of masks stand beside every world -/
def av_NK (w : Cond) : Bool := match w with
  | .fieldLinkNest _ _ _ _ _ _ => true
  | .methodLinkNest _ _ _ _ => true
  | _ => false
theorem av_NW {w : Cond} (hw : av_NK w = true) {s U : State} (hW : s.WarmedH U.vm) (h : va_Nw w s) : va_Nw w U := by
  cases w with
  | fieldLinkNest a i b n d x => exact va_Nw.warmF hW h
  | methodLinkNest a i x y => exact va_Nw.warmM hW h
  | _ => cases hw
theorem av_NS {w : Cond} (hw : av_NK w = true) {u U : State} (hv : u.vm = U.vm) (h : va_Nw w u) : va_Nw w U := by
  cases w with
  | fieldLinkNest a i b n d x => exact va_Nw.same rfl hv h
  | methodLinkNest a i x y => exact va_Nw.same rfl hv h
  | _ => cases hw
def av_G (Ns : List Cond) (tab : Nat → Int64) (A : Nat → Prop) (U : State) (H : Heap) : Prop := Ns.all av_NK = true ∧ (∀ w ∈ Ns, va_Nw w U) ∧ ∃ t : Nat, va_Z "FaultTreeDesk" "ON_IN_WORD" "[J" (.ref t) A U H ∧ va_T .long t 6 (fun j => .long (tab j)) A U H
theorem av_G.to {Ns : List Cond} {tab : Nat → Int64} {A B : Nat → Prop} {s U : State} {H H1 : Heap} (h : av_G Ns tab A s H) (hW : s.WarmedH U.vm) (hq : ∀ a : Nat, a < H.size → ¬ A a → H1[a]? = H[a]?) (hAB : ∀ q, B q → A q) : av_G Ns tab B U H1 := by
  obtain ⟨h0, h1, t, hZ, hT⟩ := h
  exact ⟨h0, fun w hw => av_NW (List.all_eq_true.mp h0 w hw) hW (h1 w hw), t, ((va_Z.moved hW.alike hZ).kept hq).narrow hAB, ((va_T.moved hW.alike hT).kept hq).narrow hAB⟩
theorem av_G.calling {Ns : List Cond} {tab : Nat → Int64} {A : Nat → Prop} {U : State} {g : JFrame} {mk : MethodId} {a : Array Value} (h : av_G Ns tab A U U.heap) : av_G Ns tab A (U.calling g mk a) (U.calling g mk a).heap := by
  obtain ⟨h0, h1, t, hZ, hT⟩ := h
  exact ⟨h0, fun w hw => av_NS (u := U) (U := U.calling g mk a) (List.all_eq_true.mp h0 w hw) rfl (h1 w hw), t, va_Z.moved (u := U) (U := U.calling g mk a) (Vm.Alike.refl U.vm) hZ, va_T.moved (u := U) (U := U.calling g mk a) (Vm.Alike.refl U.vm) hT⟩
def av_Pre (D : va_G) (cl : List vw_C) (ca : Nat → Nat) (Ns : List Cond) (tab : Nat → Int64) (ad : Nat → Nat) (w : List va_E) (sz : Nat) (U : State) : Prop := U.heap.size = sz ∧ va_P D cl (ax_W ad ca w) U.heap ∧ va_K D cl (ax_ty ca) U ∧ va_D (fun _ => True) (ax_W ad ca w) ∧ av_G Ns tab (va_A (ax_W ad ca w) sz) U U.heap
def av_B (D : va_G) (cl : List vw_C) (ad ca : Nat → Nat) (A0 : Nat → Prop) (w' : List va_E) (t : State) : Prop := va_P D cl (ax_W ad ca w') t.heap ∧ va_D A0 (ax_W ad ca w')
theorem av_blind {D : va_G} {cl : List vw_C} {ca : Nat → Nat} {Ns : List Cond} {tab : Nat → Int64} {ad : Nat → Nat} {w : List va_E} {sz : Nat} {av : List Value} : FrameBlind (va_Pc av (av_Pre D cl ca Ns tab ad w sz)) :=
  fun a U g mk q => ⟨q.1, q.2.1, q.2.2.1, va_K.moved (u := U) (U := U.calling g mk a) (Vm.Alike.refl U.vm) q.2.2.2.1, q.2.2.2.2.1, q.2.2.2.2.2.calling⟩
/-- a method that answers an int (or a boolean), a long, nothing; that makes no cell and throws nothing -/
def av_Ci (l : Launch) (D : va_G) (cl : List vw_C) (ca : Nat → Nat) (Ns : List Cond) (tab : Nat → Int64) (y : MethodName) (ws : List Cond) (rm : Room) (as : List Value) (w : List va_E) (post : Int32 → List va_E → Prop) : Prop :=
  ∀ (ad : Nat → Nat) (sz : Nat), Met l y ws rm (va_Pc (as.map (ax_v ad)) (av_Pre D cl ca Ns tab ad w sz)) (va_Qi post (av_B D cl ad ca (va_A (ax_W ad ca w) sz)) (va_A (ax_W ad ca w) sz)) 0 0 (va_A (ax_W ad ca w) sz)
def av_Cl (l : Launch) (D : va_G) (cl : List vw_C) (ca : Nat → Nat) (Ns : List Cond) (tab : Nat → Int64) (y : MethodName) (ws : List Cond) (rm : Room) (as : List Value) (w : List va_E) (post : Int64 → List va_E → Prop) : Prop :=
  ∀ (ad : Nat → Nat) (sz : Nat), Met l y ws rm (va_Pc (as.map (ax_v ad)) (av_Pre D cl ca Ns tab ad w sz)) (va_Ql post (av_B D cl ad ca (va_A (ax_W ad ca w) sz)) (va_A (ax_W ad ca w) sz)) 0 0 (va_A (ax_W ad ca w) sz)
def av_Cv (l : Launch) (D : va_G) (cl : List vw_C) (ca : Nat → Nat) (Ns : List Cond) (tab : Nat → Int64) (y : MethodName) (ws : List Cond) (rm : Room) (as : List Value) (w : List va_E) (post : List va_E → Prop) : Prop :=
  ∀ (ad : Nat → Nat) (sz : Nat), Met l y ws rm (va_Pc (as.map (ax_v ad)) (av_Pre D cl ca Ns tab ad w sz)) (va_Qv post (av_B D cl ad ca (va_A (ax_W ad ca w) sz)) (va_A (ax_W ad ca w) sz)) 0 0 (va_A (ax_W ad ca w) sz)
section AC
variable {l : Launch} {D : va_G} {cl : List vw_C} {ca : Nat → Nat} {Ns : List Cond} {tab : Nat → Int64}
theorem av_inI {y : MethodName} {ws ws' : List Cond} {rm : Room} {as : List Value} {w : List va_E} {post : Int32 → List va_E → Prop} {cc : ByteArray} {nL : Nat} {ty : FieldType} (hy : plainName y.cls = true) (hw : ws = Cond.code y cc nL (some ty) :: ws') (hn : (ax_ar as).length ≤ nL)
    (h : ∀ (p : Program) (e : Env) (s : State) (m : MethodId) (args : Array Value) (below : List Frame) (meth : Method) (c : Code) (A : Nat → Prop) (ad : Nat → Nat), av_K p s m args meth c D cl ca A cc nL y.cls ws' → av_G Ns tab A s s.heap → meth.sig.returnType = some ty →
      av_V p l e rm s m args below meth c D cl A ad ca nL (MQ below (va_Qi post (av_B D cl ad ca A) A) args s 0 0 A) 0 0 0 (ax_en nL as) [] w) : av_Ci l D cl ca Ns tab y ws rm as w post := by
  intro ad sz
  refine Met.ofW (cc := cc) (maxL := nL) (ret := some ty) hy hw ?_
  intro p e s m args below meth c s₁ B hml hv
  obtain ⟨rfl, hsz, hP, hK, hD0, hG⟩ := hv
  subst hsz
  have hts := atoms_spec (ws := ws) B.pre
  have hD := hD0.self (sz := s.heap.size)
  generalize hAe : va_A (ax_W ad ca w) s.heap.size = A at hD hG ⊢
  have hA : ∀ q : Nat, s.heap.size ≤ q → A q := fun q h => by rw [← hAe]; exact Or.inr h
  rw [lg_entry_eq]
  exact h p e s m _ below meth c A ad ⟨B.exec, B.bytes, hml, findClass_of_methodNamed B.named, fun w h9 => hts w (by rw [hw]; exact List.mem_cons_of_mem _ h9), hK, hA, B.notSynchronized⟩ hG B.returns s.heap [] _ hP hD va_S.rf (ax_L.en ad as hn)
theorem av_inL {y : MethodName} {ws ws' : List Cond} {rm : Room} {as : List Value} {w : List va_E} {post : Int64 → List va_E → Prop} {cc : ByteArray} {nL : Nat} {ty : FieldType} (hy : plainName y.cls = true) (hw : ws = Cond.code y cc nL (some ty) :: ws') (hn : (ax_ar as).length ≤ nL)
    (h : ∀ (p : Program) (e : Env) (s : State) (m : MethodId) (args : Array Value) (below : List Frame) (meth : Method) (c : Code) (A : Nat → Prop) (ad : Nat → Nat), av_K p s m args meth c D cl ca A cc nL y.cls ws' → av_G Ns tab A s s.heap → meth.sig.returnType = some ty →
      av_V p l e rm s m args below meth c D cl A ad ca nL (MQ below (va_Ql post (av_B D cl ad ca A) A) args s 0 0 A) 0 0 0 (ax_en nL as) [] w) : av_Cl l D cl ca Ns tab y ws rm as w post := by
  intro ad sz
  refine Met.ofW (cc := cc) (maxL := nL) (ret := some ty) hy hw ?_
  intro p e s m args below meth c s₁ B hml hv
  obtain ⟨rfl, hsz, hP, hK, hD0, hG⟩ := hv
  subst hsz
  have hts := atoms_spec (ws := ws) B.pre
  have hD := hD0.self (sz := s.heap.size)
  generalize hAe : va_A (ax_W ad ca w) s.heap.size = A at hD hG ⊢
  have hA : ∀ q : Nat, s.heap.size ≤ q → A q := fun q h => by rw [← hAe]; exact Or.inr h
  rw [lg_entry_eq]
  exact h p e s m _ below meth c A ad ⟨B.exec, B.bytes, hml, findClass_of_methodNamed B.named, fun w h9 => hts w (by rw [hw]; exact List.mem_cons_of_mem _ h9), hK, hA, B.notSynchronized⟩ hG B.returns s.heap [] _ hP hD va_S.rf (ax_L.en ad as hn)
theorem av_inV {y : MethodName} {ws ws' : List Cond} {rm : Room} {as : List Value} {w : List va_E} {post : List va_E → Prop} {cc : ByteArray} {nL : Nat} (hy : plainName y.cls = true) (hw : ws = Cond.code y cc nL none :: ws') (hn : (ax_ar as).length ≤ nL)
    (h : ∀ (p : Program) (e : Env) (s : State) (m : MethodId) (args : Array Value) (below : List Frame) (meth : Method) (c : Code) (A : Nat → Prop) (ad : Nat → Nat), av_K p s m args meth c D cl ca A cc nL y.cls ws' → av_G Ns tab A s s.heap → meth.sig.returnType = none →
      av_V p l e rm s m args below meth c D cl A ad ca nL (MQ below (va_Qv post (av_B D cl ad ca A) A) args s 0 0 A) 0 0 0 (ax_en nL as) [] w) : av_Cv l D cl ca Ns tab y ws rm as w post := by
  intro ad sz
  refine Met.ofW (cc := cc) (maxL := nL) (ret := none) hy hw ?_
  intro p e s m args below meth c s₁ B hml hv
  obtain ⟨rfl, hsz, hP, hK, hD0, hG⟩ := hv
  subst hsz
  have hts := atoms_spec (ws := ws) B.pre
  have hD := hD0.self (sz := s.heap.size)
  generalize hAe : va_A (ax_W ad ca w) s.heap.size = A at hD hG ⊢
  have hA : ∀ q : Nat, s.heap.size ≤ q → A q := fun q h => by rw [← hAe]; exact Or.inr h
  rw [lg_entry_eq]
  exact h p e s m _ below meth c A ad ⟨B.exec, B.bytes, hml, findClass_of_methodNamed B.named, fun w h9 => hts w (by rw [hw]; exact List.mem_cons_of_mem _ h9), hK, hA, B.notSynchronized⟩ hG B.returns s.heap [] _ hP hD va_S.rf (ax_L.en ad as hn)
variable {p : Program} {e : Env} {R : Room} {s : State} {m : MethodId} {args : Array Value} {below : List Frame} {meth : Method} {c : Code} {cells slots : Nat} {Q : State → Prop}
variable {A : Nat → Prop} {ad : Nat → Nat} {cc : ByteArray} {nL : Nat} {own : String} {Ts : List Cond}
variable {pc : Nat} {L L' : List (Option Value)} {st st0 : List Value} {w w' : List va_E}
theorem av_ireturn (K : av_K p s m args meth c D cl ca A cc nL own Ts) {post : Int32 → List va_E → Prop} {v : Int32} (hr : meth.sig.returnType = some .int) (hd : decode cc pc = .ok (.ireturn, 1)) (hp : post v w) : av_V p l e R s m args below meth c D cl A ad ca nL (MQ below (va_Qi post (av_B D cl ad ca A) A) args s cells slots A) cells slots pc L [.int v] w :=
  fun H locs ls hP hD hS hL => W.iret (v := v) K.1 K.2.1 hr (fun t ht hW => ⟨⟨v, w, rfl, hp, by rw [ht]; exact hP, hD⟩, hS.F ht⟩) hS.2.2 hd K.2.2.2.2.2.2.2
theorem av_zreturn (K : av_K p s m args meth c D cl ca A cc nL own Ts) {post : Int32 → List va_E → Prop} {v : Int32} (hr : meth.sig.returnType = some .boolean) (hn : narrow .boolean (.int v) = .int v) (hd : decode cc pc = .ok (.ireturn, 1)) (hp : post v w) : av_V p l e R s m args below meth c D cl A ad ca nL (MQ below (va_Qi post (av_B D cl ad ca A) A) args s cells slots A) cells slots pc L [.int v] w :=
  fun H locs ls hP hD hS hL => W.zret (v := v) K.1 K.2.1 hr hn (fun t ht hW => ⟨⟨v, w, rfl, hp, by rw [ht]; exact hP, hD⟩, hS.F ht⟩) hS.2.2 hd K.2.2.2.2.2.2.2
theorem av_lreturn (K : av_K p s m args meth c D cl ca A cc nL own Ts) {post : Int64 → List va_E → Prop} {v : Int64} (hr : meth.sig.returnType = some .long) (hd : decode cc pc = .ok (.lreturn, 1)) (hp : post v w) : av_V p l e R s m args below meth c D cl A ad ca nL (MQ below (va_Ql post (av_B D cl ad ca A) A) args s cells slots A) cells slots pc L [.long v] w :=
  fun H locs ls hP hD hS hL => W.lret (v := v) K.1 K.2.1 hr (fun t ht hW => ⟨⟨v, w, rfl, hp, by rw [ht]; exact hP, hD⟩, hS.F ht⟩) hS.2.2 hd K.2.2.2.2.2.2.2
theorem av_return (K : av_K p s m args meth c D cl ca A cc nL own Ts) {post : List va_E → Prop} (hr : meth.sig.returnType = none) (hd : decode cc pc = .ok (.return_, 1)) (hp : post w) : av_V p l e R s m args below meth c D cl A ad ca nL (MQ below (va_Qv post (av_B D cl ad ca A) A) args s cells slots A) cells slots pc L [] w :=
  fun H locs ls hP hD hS hL => W.vret K.1 K.2.1 hr (fun t ht hW => ⟨⟨w, rfl, hp, by rw [ht]; exact hP, hD⟩, hS.F ht⟩) hS.2.2 hd K.2.2.2.2.2.2.2
theorem av_sub (K : av_K p s m args meth c D cl ca A cc nL own Ts) {H : Heap} {locs : List Loc} (hD : va_D A (ax_W ad ca w)) (hS : va_S A s.heap H locs) : ∀ q, va_A (ax_W ad ca w) H.size q → A q := by
  intro q h
  rcases h with ⟨k, e, h⟩ | h
  · exact hD.2 k (q, e) h
  · exact K.2.2.2.2.2.2.1 q (Nat.le_trans hS.1 h)
theorem av_pre (K : av_K p s m args meth c D cl ca A cc nL own Ts) (G : av_G Ns tab A s s.heap) {H : Heap} {locs : List Loc} (hP : va_P D cl (ax_W ad ca w) H) (hD : va_D A (ax_W ad ca w)) (hS : va_S A s.heap H locs) (av : List Value) : PreS s H (va_Pc (av.map (ax_v ad)) (av_Pre D cl ca Ns tab ad w H.size)) (av.map (ax_v ad)) :=
  ⟨av_blind, fun U hU hW => ⟨rfl, by rw [hU], by rw [hU]; exact hP, va_K.moved hW.alike K.2.2.2.2.2.1, hD.weaken (fun _ _ _ _ => trivial), by rw [hU]; exact G.to hW (fun a h1 h2 => hS.2.1 a h1 h2) (av_sub K hD hS)⟩⟩
/-- calls: virtual (V), static (S); int, long, nothing -/
theorem av_cVi (K : av_K p s m args meth c D cl ca A cc nL own Ts) (G : av_G Ns tab A s s.heap) {y : MethodName} {ws1 : List Cond} {rm : Room} {bytes : ByteArray} {maxL index n q ci : Nat} {ret : Option FieldType} {C : String} {T : u_T} {N : Nat} {fs As : List Value} {post : Int32 → List va_E → Prop} (cal : av_Ci l D cl ca Ns tab y ws1 rm (.ref q :: As) w post) (cw : CallW R s args own C index y bytes maxL ret ws1 rm 0 0 n)
    (hc : cl[ci]? = some (C, T, N)) (he : w[q]? = some (.inr (ci, fs))) (hn : As.length = n) (hst : As.reverse ++ .ref q :: st = st0) (hroom : (st.map Value.category).sum ≤ 8) (hd : decode cc pc = .ok (.invokevirtual index, 3)) (hf : cells ≤ R.cells ∧ slots ≤ R.slots)
    (k : ∀ r w', post r w' → av_V p l e R s m args below meth c D cl A ad ca nL Q cells slots (pc + 3) L (.int r :: st) w') : av_V p l e R s m args below meth c D cl A ad ca nL Q cells slots pc L st0 w := by
  intro H locs ls hP hD hS hL
  subst hst
  have hFc := av_sub K hD hS
  have hpr := av_pre K G hP hD hS (.ref q :: As)
  refine va_calli (va_runV (As := As.map (ax_v ad)) (rest := st.map (ax_v ad)) ⟨K.1, K.2.1, K.2.2.1, K.2.2.2.1, K.2.2.2.2.1⟩ (cal ad H.size) cw ⟨hpr.1, va_recv K.2.2.2.2.2.1 hP hc (ax_W_at he), hpr.2⟩ rfl (by rw [List.length_map]; exact hn) hL.1 (by simp [ax_v]) (lv_room (by rw [List.map_map]; simpa [Function.comp_def, ax_v_cat] using hroom)) hd hf) hS (fun q _ h => hFc q h) hFc (fun r w' t H1 locs1 ht hvm hp hB hz1 hk1 hS1 => ?_)
  obtain ⟨hP1, hD1⟩ := hB
  rw [ht] at hP1
  exact k r w' hp H1 locs1 ls hP1 (hD1.weaken (fun _ q _ h => hFc q.1 h)) hS1 hL
theorem av_cVl (K : av_K p s m args meth c D cl ca A cc nL own Ts) (G : av_G Ns tab A s s.heap) {y : MethodName} {ws1 : List Cond} {rm : Room} {bytes : ByteArray} {maxL index n q ci : Nat} {ret : Option FieldType} {C : String} {T : u_T} {N : Nat} {fs As : List Value} {post : Int64 → List va_E → Prop} (cal : av_Cl l D cl ca Ns tab y ws1 rm (.ref q :: As) w post) (cw : CallW R s args own C index y bytes maxL ret ws1 rm 0 0 n)
    (hc : cl[ci]? = some (C, T, N)) (he : w[q]? = some (.inr (ci, fs))) (hn : As.length = n) (hst : As.reverse ++ .ref q :: st = st0) (hroom : (st.map Value.category).sum ≤ 8) (hd : decode cc pc = .ok (.invokevirtual index, 3)) (hf : cells ≤ R.cells ∧ slots ≤ R.slots)
    (k : ∀ r w', post r w' → av_V p l e R s m args below meth c D cl A ad ca nL Q cells slots (pc + 3) L (.long r :: st) w') : av_V p l e R s m args below meth c D cl A ad ca nL Q cells slots pc L st0 w := by
  intro H locs ls hP hD hS hL
  subst hst
  have hFc := av_sub K hD hS
  have hpr := av_pre K G hP hD hS (.ref q :: As)
  refine va_calll (va_runV (As := As.map (ax_v ad)) (rest := st.map (ax_v ad)) ⟨K.1, K.2.1, K.2.2.1, K.2.2.2.1, K.2.2.2.2.1⟩ (cal ad H.size) cw ⟨hpr.1, va_recv K.2.2.2.2.2.1 hP hc (ax_W_at he), hpr.2⟩ rfl (by rw [List.length_map]; exact hn) hL.1 (by simp [ax_v]) (lv_room (by rw [List.map_map]; simpa [Function.comp_def, ax_v_cat] using hroom)) hd hf) hS (fun q _ h => hFc q h) hFc (fun r w' t H1 locs1 ht hvm hp hB hz1 hk1 hS1 => ?_)
  obtain ⟨hP1, hD1⟩ := hB
  rw [ht] at hP1
  exact k r w' hp H1 locs1 ls hP1 (hD1.weaken (fun _ q _ h => hFc q.1 h)) hS1 hL
theorem av_cVv (K : av_K p s m args meth c D cl ca A cc nL own Ts) (G : av_G Ns tab A s s.heap) {y : MethodName} {ws1 : List Cond} {rm : Room} {bytes : ByteArray} {maxL index n q ci : Nat} {ret : Option FieldType} {C : String} {T : u_T} {N : Nat} {fs As : List Value} {post : List va_E → Prop} (cal : av_Cv l D cl ca Ns tab y ws1 rm (.ref q :: As) w post) (cw : CallW R s args own C index y bytes maxL ret ws1 rm 0 0 n)
    (hc : cl[ci]? = some (C, T, N)) (he : w[q]? = some (.inr (ci, fs))) (hn : As.length = n) (hst : As.reverse ++ .ref q :: st = st0) (hroom : (st.map Value.category).sum ≤ 8) (hd : decode cc pc = .ok (.invokevirtual index, 3)) (hf : cells ≤ R.cells ∧ slots ≤ R.slots)
    (k : ∀ w', post w' → av_V p l e R s m args below meth c D cl A ad ca nL Q cells slots (pc + 3) L st w') : av_V p l e R s m args below meth c D cl A ad ca nL Q cells slots pc L st0 w := by
  intro H locs ls hP hD hS hL
  subst hst
  have hFc := av_sub K hD hS
  have hpr := av_pre K G hP hD hS (.ref q :: As)
  refine va_callv (va_runV (As := As.map (ax_v ad)) (rest := st.map (ax_v ad)) ⟨K.1, K.2.1, K.2.2.1, K.2.2.2.1, K.2.2.2.2.1⟩ (cal ad H.size) cw ⟨hpr.1, va_recv K.2.2.2.2.2.1 hP hc (ax_W_at he), hpr.2⟩ rfl (by rw [List.length_map]; exact hn) hL.1 (by simp [ax_v]) (lv_room (by rw [List.map_map]; simpa [Function.comp_def, ax_v_cat] using hroom)) hd hf) hS (fun q _ h => hFc q h) hFc (fun w' t H1 locs1 ht hvm hp hB hz1 hk1 hS1 => ?_)
  obtain ⟨hP1, hD1⟩ := hB
  rw [ht] at hP1
  exact k w' hp H1 locs1 ls hP1 (hD1.weaken (fun _ q _ h => hFc q.1 h)) hS1 hL
theorem av_cSi (K : av_K p s m args meth c D cl ca A cc nL own Ts) (G : av_G Ns tab A s s.heap) {y : MethodName} {ws1 : List Cond} {rm : Room} {bytes : ByteArray} {maxL index n : Nat} {ret : Option FieldType} {As : List Value} {post : Int32 → List va_E → Prop} (cal : av_Ci l D cl ca Ns tab y ws1 rm As w post) (cw : CallB R s args own index y bytes maxL ret ws1 rm 0 0 n ∧ (Cond.static y).before args s = true)
    (hn : As.length = n) (hst : As.reverse ++ st = st0) (hroom : (st.map Value.category).sum ≤ 8) (hd : decode cc pc = .ok (.invokestatic index, 3)) (hf : cells ≤ R.cells ∧ slots ≤ R.slots)
    (k : ∀ r w', post r w' → av_V p l e R s m args below meth c D cl A ad ca nL Q cells slots (pc + 3) L (.int r :: st) w') : av_V p l e R s m args below meth c D cl A ad ca nL Q cells slots pc L st0 w := by
  intro H locs ls hP hD hS hL
  subst hst
  have hFc := av_sub K hD hS
  refine va_calli (va_runS (As := As.map (ax_v ad)) (rest := st.map (ax_v ad)) ⟨K.1, K.2.1, K.2.2.1, K.2.2.2.1, K.2.2.2.2.1⟩ (cal ad H.size) cw (av_pre K G hP hD hS As) rfl (by rw [List.length_map]; exact hn) hL.1 (by simp) (lv_room (by rw [List.map_map]; simpa [Function.comp_def, ax_v_cat] using hroom)) hd hf) hS (fun q _ h => hFc q h) hFc (fun r w' t H1 locs1 ht hvm hp hB hz1 hk1 hS1 => ?_)
  obtain ⟨hP1, hD1⟩ := hB
  rw [ht] at hP1
  exact k r w' hp H1 locs1 ls hP1 (hD1.weaken (fun _ q _ h => hFc q.1 h)) hS1 hL
theorem av_cSl (K : av_K p s m args meth c D cl ca A cc nL own Ts) (G : av_G Ns tab A s s.heap) {y : MethodName} {ws1 : List Cond} {rm : Room} {bytes : ByteArray} {maxL index n : Nat} {ret : Option FieldType} {As : List Value} {post : Int64 → List va_E → Prop} (cal : av_Cl l D cl ca Ns tab y ws1 rm As w post) (cw : CallB R s args own index y bytes maxL ret ws1 rm 0 0 n ∧ (Cond.static y).before args s = true)
    (hn : As.length = n) (hst : As.reverse ++ st = st0) (hroom : (st.map Value.category).sum ≤ 8) (hd : decode cc pc = .ok (.invokestatic index, 3)) (hf : cells ≤ R.cells ∧ slots ≤ R.slots)
    (k : ∀ r w', post r w' → av_V p l e R s m args below meth c D cl A ad ca nL Q cells slots (pc + 3) L (.long r :: st) w') : av_V p l e R s m args below meth c D cl A ad ca nL Q cells slots pc L st0 w := by
  intro H locs ls hP hD hS hL
  subst hst
  have hFc := av_sub K hD hS
  refine va_calll (va_runS (As := As.map (ax_v ad)) (rest := st.map (ax_v ad)) ⟨K.1, K.2.1, K.2.2.1, K.2.2.2.1, K.2.2.2.2.1⟩ (cal ad H.size) cw (av_pre K G hP hD hS As) rfl (by rw [List.length_map]; exact hn) hL.1 (by simp) (lv_room (by rw [List.map_map]; simpa [Function.comp_def, ax_v_cat] using hroom)) hd hf) hS (fun q _ h => hFc q h) hFc (fun r w' t H1 locs1 ht hvm hp hB hz1 hk1 hS1 => ?_)
  obtain ⟨hP1, hD1⟩ := hB
  rw [ht] at hP1
  exact k r w' hp H1 locs1 ls hP1 (hD1.weaken (fun _ q _ h => hFc q.1 h)) hS1 hL
/-- the table of masks: getstatic, an index from the locals, laload -/
theorem av_tab (K : av_K p s m args meth c D cl ca A cc nL own Ts) (G : av_G Ns tab A s s.heap) {index : Nat} {host : String} {i : Int32} (hl : Cond.fieldLinkNest own index "FaultTreeDesk" "ON_IN_WORD" "[J" host ∈ Ns) (hd : decode cc pc = .ok (.getstatic index, 3)) {pc2 : Nat} (hld : ∀ (H : Heap) (locs : List Loc) (ls : Array Slot) (rest : List Value), ax_L ls nL ad L → W p l e R s m args below meth c H locs cells slots Q (F0 m pc2 ls (.int i :: rest)) → W p l e R s m args below meth c H locs cells slots Q (F0 m (pc + 3) ls rest)) (hd2 : decode cc pc2 = .ok (.laload, 1)) (hin : ¬ (i < 0 ∨ 6 ≤ i.toNatClampNeg))
    (k : av_V p l e R s m args below meth c D cl A ad ca nL Q cells slots (pc2 + 1) L (.long (tab i.toNatClampNeg) :: st) w) : av_V p l e R s m args below meth c D cl A ad ca nL Q cells slots pc L st w := by
  intro H locs ls hP hD hS hL
  obtain ⟨-, hN, t, hZ, hT⟩ := G
  refine va_getsN K.1 K.2.1 hZ hS K.2.2.2.1 (va_Nw.use rfl (hN _ hl)) (fun _ h => h) hd ?_
  refine hld H locs ls _ hL ?_
  exact va_tl K.1 K.2.1 hT hS hin rfl hd2 (k H locs ls hP hD hS hL)
end AC
abbrev av_VI (p : Program) (l : Launch) (e : Env) (R : Room) (s : State) (m : MethodId) (args : Array Value) (below : List Frame) (meth : Method) (c : Code) (D : va_G) (cl : List vw_C) (A : Nat → Prop) (ad ca : Nat → Nat) (nL : Nat) (r : Int32 × List va_E) (pc : Nat) (L : List (Option Value)) (st : List Value) (w : List va_E) : Prop := av_V p l e R s m args below meth c D cl A ad ca nL (MQ below (va_Qi (fun v u => (v, u) = r) (av_B D cl ad ca A) A) args s 0 0 A) 0 0 pc L st w
abbrev av_VL (p : Program) (l : Launch) (e : Env) (R : Room) (s : State) (m : MethodId) (args : Array Value) (below : List Frame) (meth : Method) (c : Code) (D : va_G) (cl : List vw_C) (A : Nat → Prop) (ad ca : Nat → Nat) (nL : Nat) (r : Int64 × List va_E) (pc : Nat) (L : List (Option Value)) (st : List Value) (w : List va_E) : Prop := av_V p l e R s m args below meth c D cl A ad ca nL (MQ below (va_Ql (fun v u => (v, u) = r) (av_B D cl ad ca A) A) args s 0 0 A) 0 0 pc L st w
abbrev av_VV (p : Program) (l : Launch) (e : Env) (R : Room) (s : State) (m : MethodId) (args : Array Value) (below : List Frame) (meth : Method) (c : Code) (D : va_G) (cl : List vw_C) (A : Nat → Prop) (ad ca : Nat → Nat) (nL : Nat) (r : List va_E) (pc : Nat) (L : List (Option Value)) (st : List Value) (w : List va_E) : Prop := av_V p l e R s m args below meth c D cl A ad ca nL (MQ below (va_Qv (fun u => u = r) (av_B D cl ad ca A) A) args s 0 0 A) 0 0 pc L st w
end
section
/-! the heap's own readers and writers over abstract worlds: none where the machine would throw or where the cell is of another kind -/
def hp_gi (w : List va_E) (q ci k : Nat) : Option Int32 := match w[q]? with
  | some (.inr (c, fs)) => if c = ci then (match fs[k]? with
    | some (.int x) => some x
    | _ => none) else none
  | _ => none
def hp_gr (w : List va_E) (q ci k : Nat) : Option Nat := match w[q]? with
  | some (.inr (c, fs)) => if c = ci then (match fs[k]? with
    | some (.ref x) => some x
    | _ => none) else none
  | _ => none
def hp_pi (w : List va_E) (q ci k : Nat) (x : Int32) : Option (List va_E) := match w[q]? with
  | some (.inr (c, fs)) => if c = ci ∧ k < fs.length then some (w.set q (.inr (c, fs.set k (.int x)))) else none
  | _ => none
def hp_pz (w : List va_E) (q ci k : Nat) (x : Int32) : Option (List va_E) := if x = 0 ∨ x = 1 then hp_pi w q ci k x else none
def hp_ri (w : List va_E) (q : Nat) (i : Int32) : Option Int32 := match w[q]? with
  | some (.inl (c, n, .inl f)) => if c = 0 ∧ ¬ (i < 0 ∨ n ≤ i.toNatClampNeg) then some (f i.toNatClampNeg) else none
  | _ => none
def hp_rz (w : List va_E) (q : Nat) (i : Int32) : Option Int32 := match w[q]? with
  | some (.inl (c, n, .inl f)) => if c = 2 ∧ ¬ (i < 0 ∨ n ≤ i.toNatClampNeg) then some (f i.toNatClampNeg) else none
  | _ => none
def hp_rl (w : List va_E) (q : Nat) (i : Int32) : Option Int64 := match w[q]? with
  | some (.inl (c, n, .inr (.inl f))) => if c = 1 ∧ ¬ (i < 0 ∨ n ≤ i.toNatClampNeg) then some (f i.toNatClampNeg) else none
  | _ => none
def hp_ra (w : List va_E) (q : Nat) (i : Int32) : Option Nat := match w[q]? with
  | some (.inl (c, n, .inr (.inr (.inr (.inr f))))) => if c = 3 ∧ ¬ (i < 0 ∨ n ≤ i.toNatClampNeg) then f i.toNatClampNeg else none
  | _ => none
def hp_wi (w : List va_E) (q : Nat) (i : Int32) (x : Int32) : Option (List va_E) := match w[q]? with
  | some (.inl (c, n, .inl f)) => if c = 0 ∧ ¬ (i < 0 ∨ n ≤ i.toNatClampNeg) then some (w.set q (.inl (c, n, .inl (upd f i.toNatClampNeg x)))) else none
  | _ => none
def hp_wz (w : List va_E) (q : Nat) (i : Int32) (x : Int32) : Option (List va_E) := match w[q]? with
  | some (.inl (c, n, .inl f)) => if c = 2 ∧ ¬ (i < 0 ∨ n ≤ i.toNatClampNeg) then some (w.set q (.inl (c, n, .inl (upd f i.toNatClampNeg (vp_nar .boolean x))))) else none
  | _ => none
def hp_wl (w : List va_E) (q : Nat) (i : Int32) (x : Int64) : Option (List va_E) := match w[q]? with
  | some (.inl (c, n, .inr (.inl f))) => if c = 1 ∧ ¬ (i < 0 ∨ n ≤ i.toNatClampNeg) then some (w.set q (.inl (c, n, .inr (.inl (vp_updL f i.toNatClampNeg x))))) else none
  | _ => none
theorem hp_gi_of {w : List va_E} {q ci k : Nat} {x : Int32} (h : hp_gi w q ci k = some x) : ∃ fs, w[q]? = some (.inr (ci, fs)) ∧ fs[k]? = some (.int x) := by
  unfold hp_gi at h
  split at h
  · rename_i c fs hq
    split at h
    · rename_i hc
      subst hc
      split at h
      · rename_i y hy
        cases h
        exact ⟨fs, hq, hy⟩
      · cases h
    · cases h
  · cases h
theorem hp_gr_of {w : List va_E} {q ci k x : Nat} (h : hp_gr w q ci k = some x) : ∃ fs, w[q]? = some (.inr (ci, fs)) ∧ fs[k]? = some (.ref x) := by
  unfold hp_gr at h
  split at h
  · rename_i c fs hq
    split at h
    · rename_i hc
      subst hc
      split at h
      · rename_i y hy
        cases h
        exact ⟨fs, hq, hy⟩
      · cases h
    · cases h
  · cases h
theorem hp_pi_of {w w' : List va_E} {q ci k : Nat} {x : Int32} (h : hp_pi w q ci k x = some w') : ∃ fs, w[q]? = some (.inr (ci, fs)) ∧ k < fs.length ∧ w.set q (.inr (ci, fs.set k (.int x))) = w' := by
  unfold hp_pi at h
  split at h
  · rename_i c fs hq
    split at h
    · rename_i hc
      obtain ⟨hc, hk⟩ := hc
      subst hc
      cases h
      exact ⟨fs, hq, hk, rfl⟩
    · cases h
  · cases h
theorem hp_ri_of {w : List va_E} {q : Nat} {i x : Int32} (h : hp_ri w q i = some x) : ∃ n f, w[q]? = some (.inl (0, n, .inl f)) ∧ vp_in i n ∧ f i.toNatClampNeg = x := by
  unfold hp_ri at h
  split at h
  · rename_i c n f hq
    split at h
    · rename_i hc
      obtain ⟨hc, hk⟩ := hc
      subst hc
      cases h
      exact ⟨n, f, hq, hk, rfl⟩
    · cases h
  · cases h
theorem hp_rz_of {w : List va_E} {q : Nat} {i x : Int32} (h : hp_rz w q i = some x) : ∃ n f, w[q]? = some (.inl (2, n, .inl f)) ∧ vp_in i n ∧ f i.toNatClampNeg = x := by
  unfold hp_rz at h
  split at h
  · rename_i c n f hq
    split at h
    · rename_i hc
      obtain ⟨hc, hk⟩ := hc
      subst hc
      cases h
      exact ⟨n, f, hq, hk, rfl⟩
    · cases h
  · cases h
theorem hp_rl_of {w : List va_E} {q : Nat} {i : Int32} {x : Int64} (h : hp_rl w q i = some x) : ∃ n f, w[q]? = some (.inl (1, n, .inr (.inl f))) ∧ vp_in i n ∧ f i.toNatClampNeg = x := by
  unfold hp_rl at h
  split at h
  · rename_i c n f hq
    split at h
    · rename_i hc
      obtain ⟨hc, hk⟩ := hc
      subst hc
      cases h
      exact ⟨n, f, hq, hk, rfl⟩
    · cases h
  · cases h
theorem hp_ra_of {w : List va_E} {q x : Nat} {i : Int32} (h : hp_ra w q i = some x) : ∃ n f, w[q]? = some (.inl (3, n, .inr (.inr (.inr (.inr f))))) ∧ vp_in i n ∧ f i.toNatClampNeg = some x := by
  unfold hp_ra at h
  split at h
  · rename_i c n f hq
    split at h
    · rename_i hc
      obtain ⟨hc, hk⟩ := hc
      subst hc
      exact ⟨n, f, hq, hk, h⟩
    · cases h
  · cases h
theorem hp_wi_of {w w' : List va_E} {q : Nat} {i x : Int32} (h : hp_wi w q i x = some w') : ∃ n f, w[q]? = some (.inl (0, n, .inl f)) ∧ vp_in i n ∧ w.set q (.inl (0, n, .inl (upd f i.toNatClampNeg x))) = w' := by
  unfold hp_wi at h
  split at h
  · rename_i c n f hq
    split at h
    · rename_i hc
      obtain ⟨hc, hk⟩ := hc
      subst hc
      cases h
      exact ⟨n, f, hq, hk, rfl⟩
    · cases h
  · cases h
theorem hp_wz_of {w w' : List va_E} {q : Nat} {i x : Int32} (h : hp_wz w q i x = some w') : ∃ n f, w[q]? = some (.inl (2, n, .inl f)) ∧ vp_in i n ∧ w.set q (.inl (2, n, .inl (upd f i.toNatClampNeg (vp_nar .boolean x)))) = w' := by
  unfold hp_wz at h
  split at h
  · rename_i c n f hq
    split at h
    · rename_i hc
      obtain ⟨hc, hk⟩ := hc
      subst hc
      cases h
      exact ⟨n, f, hq, hk, rfl⟩
    · cases h
  · cases h
theorem hp_wl_of {w w' : List va_E} {q : Nat} {i : Int32} {x : Int64} (h : hp_wl w q i x = some w') : ∃ n f, w[q]? = some (.inl (1, n, .inr (.inl f))) ∧ vp_in i n ∧ w.set q (.inl (1, n, .inr (.inl (vp_updL f i.toNatClampNeg x)))) = w' := by
  unfold hp_wl at h
  split at h
  · rename_i c n f hq
    split at h
    · rename_i hc
      obtain ⟨hc, hk⟩ := hc
      subst hc
      cases h
      exact ⟨n, f, hq, hk, rfl⟩
    · cases h
  · cases h
def hp_is (w : List va_E) (q ci : Nat) : Option Unit := match w[q]? with
  | some (.inr (c, _)) => if c = ci then some () else none
  | _ => none
theorem hp_is_of {w : List va_E} {q ci : Nat} {u : Unit} (h : hp_is w q ci = some u) : ∃ fs, w[q]? = some (.inr (ci, fs)) := by
  unfold hp_is at h
  split at h
  · rename_i c fs hq
    split at h
    · rename_i hc
      subst hc
      exact ⟨fs, hq⟩
    · cases h
  · cases h
theorem hp_if {α : Type} {c : Prop} [Decidable c] {o : Option α} {r : α} (h : (if c then o else none) = some r) : c ∧ o = some r := by
  by_cases hc : c
  · rw [if_pos hc] at h; exact ⟨hc, h⟩
  · rw [if_neg hc] at h; cases h
theorem hp_bd {α β : Type} {o : Option α} {f : α → Option β} {r : β} (h : o.bind f = some r) : ∃ x, o = some x ∧ f x = some r := by
  cases o with
  | none => cases h
  | some x => exact ⟨x, rfl, h⟩
theorem hp_nz {x : Int32} (h : x = 0 ∨ x = 1) : narrow .boolean (.int x) = .int x := by
  rcases h with h | h <;> subst h <;> decide +kernel
theorem hp_fz {x : Int32} (h : x = 0 ∨ x = 1) : fits .boolean (.int x) = true := by
  rcases h with h | h <;> subst h <;> decide +kernel
section HP
variable {p : Program} {l : Launch} {e : Env} {R : Room} {s : State} {m : MethodId} {args : Array Value} {below : List Frame} {meth : Method} {c : Code} {cells slots : Nat} {Q : State → Prop}
variable {D : va_G} {cl : List vw_C} {ca : Nat → Nat} {A : Nat → Prop} {ad : Nat → Nat} {cc : ByteArray} {nL : Nat} {own : String} {Ts : List Cond}
variable {pc : Nat} {L L' : List (Option Value)} {st : List Value} {w w' : List va_E}
theorem hv_gi (K : av_K p s m args meth c D cl ca A cc nL own Ts) {index ci kf q : Nat} {x : Int32} (f : av_F own Ts cl index ci kf) (hd : decode cc pc = .ok (.getfield index, 3)) (h : hp_gi w q ci kf = some x) (k : av_V p l e R s m args below meth c D cl A ad ca nL Q cells slots (pc + 3) L (.int x :: st) w) : av_V p l e R s m args below meth c D cl A ad ca nL Q cells slots pc L (.ref q :: st) w := by
  obtain ⟨fs, h1, h2⟩ := hp_gi_of h
  exact av_getf K f hd h1 h2 k
theorem hv_gr (K : av_K p s m args meth c D cl ca A cc nL own Ts) {index ci kf q x : Nat} (f : av_F own Ts cl index ci kf) (hd : decode cc pc = .ok (.getfield index, 3)) (h : hp_gr w q ci kf = some x) (k : av_V p l e R s m args below meth c D cl A ad ca nL Q cells slots (pc + 3) L (.ref x :: st) w) : av_V p l e R s m args below meth c D cl A ad ca nL Q cells slots pc L (.ref q :: st) w := by
  obtain ⟨fs, h1, h2⟩ := hp_gr_of h
  exact av_getf K f hd h1 h2 k
theorem hv_giN (K : av_K p s m args meth c D cl ca A cc nL own Ts) {Ns : List Cond} {tab : Nat → Int64} (G : av_G Ns tab A s s.heap) {index ci kf q : Nat} {host : String} {x : Int32} (f : av_FN own host Ts Ns cl index ci kf) (hd : decode cc pc = .ok (.getfield index, 3)) (h : hp_gi w q ci kf = some x) (k : av_V p l e R s m args below meth c D cl A ad ca nL Q cells slots (pc + 3) L (.int x :: st) w) : av_V p l e R s m args below meth c D cl A ad ca nL Q cells slots pc L (.ref q :: st) w := by
  obtain ⟨fs, h1, h2⟩ := hp_gi_of h
  exact av_getfN K G.2.1 f hd h1 h2 k
theorem hv_grN (K : av_K p s m args meth c D cl ca A cc nL own Ts) {Ns : List Cond} {tab : Nat → Int64} (G : av_G Ns tab A s s.heap) {index ci kf q x : Nat} {host : String} (f : av_FN own host Ts Ns cl index ci kf) (hd : decode cc pc = .ok (.getfield index, 3)) (h : hp_gr w q ci kf = some x) (k : av_V p l e R s m args below meth c D cl A ad ca nL Q cells slots (pc + 3) L (.ref x :: st) w) : av_V p l e R s m args below meth c D cl A ad ca nL Q cells slots pc L (.ref q :: st) w := by
  obtain ⟨fs, h1, h2⟩ := hp_gr_of h
  exact av_getfN K G.2.1 f hd h1 h2 k
theorem hv_pi (K : av_K p s m args meth c D cl ca A cc nL own Ts) {index ci kf q : Nat} {x : Int32} (f : av_FP own Ts cl index ci kf .int) (hd : decode cc pc = .ok (.putfield index, 3)) (h : hp_pi w q ci kf x = some w') (k : av_V p l e R s m args below meth c D cl A ad ca nL Q cells slots (pc + 3) L st w') : av_V p l e R s m args below meth c D cl A ad ca nL Q cells slots pc L (.int x :: .ref q :: st) w := by
  obtain ⟨fs, h1, h2, h3⟩ := hp_pi_of h
  exact av_putf K f hd h1 rfl rfl h2 h3 k
theorem hv_pz (K : av_K p s m args meth c D cl ca A cc nL own Ts) {index ci kf q : Nat} {x : Int32} (f : av_FP own Ts cl index ci kf .boolean) (hd : decode cc pc = .ok (.putfield index, 3)) (h : hp_pz w q ci kf x = some w') (k : av_V p l e R s m args below meth c D cl A ad ca nL Q cells slots (pc + 3) L st w') : av_V p l e R s m args below meth c D cl A ad ca nL Q cells slots pc L (.int x :: .ref q :: st) w := by
  unfold hp_pz at h
  split at h
  · rename_i hx
    obtain ⟨fs, h1, h2, h3⟩ := hp_pi_of h
    exact av_putf K f hd h1 (hp_nz hx) (hp_fz hx) h2 h3 k
  · cases h
theorem hv_ri (K : av_K p s m args meth c D cl ca A cc nL own Ts) {q : Nat} {i x : Int32} (hd : decode cc pc = .ok (.iaload, 1)) (h : hp_ri w q i = some x) (k : av_V p l e R s m args below meth c D cl A ad ca nL Q cells slots (pc + 1) L (.int x :: st) w) : av_V p l e R s m args below meth c D cl A ad ca nL Q cells slots pc L (.int i :: .ref q :: st) w := by
  obtain ⟨n, f, h1, h2, h3⟩ := hp_ri_of h
  subst h3
  exact av_iald K hd h1 h2 k
theorem hv_rz (K : av_K p s m args meth c D cl ca A cc nL own Ts) {q : Nat} {i x : Int32} (hd : decode cc pc = .ok (.baload, 1)) (h : hp_rz w q i = some x) (k : av_V p l e R s m args below meth c D cl A ad ca nL Q cells slots (pc + 1) L (.int x :: st) w) : av_V p l e R s m args below meth c D cl A ad ca nL Q cells slots pc L (.int i :: .ref q :: st) w := by
  obtain ⟨n, f, h1, h2, h3⟩ := hp_rz_of h
  subst h3
  exact av_zald K hd h1 h2 k
theorem hv_rl (K : av_K p s m args meth c D cl ca A cc nL own Ts) {q : Nat} {i : Int32} {x : Int64} (hd : decode cc pc = .ok (.laload, 1)) (h : hp_rl w q i = some x) (k : av_V p l e R s m args below meth c D cl A ad ca nL Q cells slots (pc + 1) L (.long x :: st) w) : av_V p l e R s m args below meth c D cl A ad ca nL Q cells slots pc L (.int i :: .ref q :: st) w := by
  obtain ⟨n, f, h1, h2, h3⟩ := hp_rl_of h
  subst h3
  exact av_lald K hd h1 h2 k
theorem hv_ra (K : av_K p s m args meth c D cl ca A cc nL own Ts) {q x : Nat} {i : Int32} (hd : decode cc pc = .ok (.aaload, 1)) (h : hp_ra w q i = some x) (k : av_V p l e R s m args below meth c D cl A ad ca nL Q cells slots (pc + 1) L (.ref x :: st) w) : av_V p l e R s m args below meth c D cl A ad ca nL Q cells slots pc L (.int i :: .ref q :: st) w := by
  obtain ⟨n, f, h1, h2, h3⟩ := hp_ra_of h
  exact av_aald K hd h1 h2 h3 k
theorem hv_wi (K : av_K p s m args meth c D cl ca A cc nL own Ts) {q : Nat} {i x : Int32} (hd : decode cc pc = .ok (.iastore, 1)) (h : hp_wi w q i x = some w') (k : av_V p l e R s m args below meth c D cl A ad ca nL Q cells slots (pc + 1) L st w') : av_V p l e R s m args below meth c D cl A ad ca nL Q cells slots pc L (.int x :: .int i :: .ref q :: st) w := by
  obtain ⟨n, f, h1, h2, h3⟩ := hp_wi_of h
  exact av_iast K hd h1 h2 h3 k
theorem hv_wz (K : av_K p s m args meth c D cl ca A cc nL own Ts) {q : Nat} {i x : Int32} (hd : decode cc pc = .ok (.bastore, 1)) (h : hp_wz w q i x = some w') (k : av_V p l e R s m args below meth c D cl A ad ca nL Q cells slots (pc + 1) L st w') : av_V p l e R s m args below meth c D cl A ad ca nL Q cells slots pc L (.int x :: .int i :: .ref q :: st) w := by
  obtain ⟨n, f, h1, h2, h3⟩ := hp_wz_of h
  exact av_zast K hd h1 h2 h3 k
theorem hv_wl (K : av_K p s m args meth c D cl ca A cc nL own Ts) {q : Nat} {i : Int32} {x : Int64} (hd : decode cc pc = .ok (.lastore, 1)) (h : hp_wl w q i x = some w') (k : av_V p l e R s m args below meth c D cl A ad ca nL Q cells slots (pc + 1) L st w') : av_V p l e R s m args below meth c D cl A ad ca nL Q cells slots pc L (.long x :: .int i :: .ref q :: st) w := by
  obtain ⟨n, f, h1, h2, h3⟩ := hp_wl_of h
  exact av_last K hd h1 h2 h3 k
/-- less is known of the locals -/
def ax_fg (L : List (Option Value)) (ks : List Nat) : List (Option Value) := ks.foldl (fun L k => L.set k none) L
theorem ax_fg_sub (ks : List Nat) : ∀ (L : List (Option Value)) (i : Nat) (v : Value), (ax_fg L ks)[i]? = some (some v) → L[i]? = some (some v) := by
  induction ks with
  | nil => intro L i v h; exact h
  | cons k ks ih =>
    intro L i v h
    have h1 := ih (L.set k none) i v h
    rw [List.getElem?_set] at h1
    by_cases hk : k = i
    · rw [if_pos hk] at h1
      split at h1 <;> cases h1
    · rw [if_neg hk] at h1
      exact h1
theorem hv_fg (ks : List Nat) (hl : ax_fg L ks = L') (k : av_V p l e R s m args below meth c D cl A ad ca nL Q cells slots pc L' st w) : av_V p l e R s m args below meth c D cl A ad ca nL Q cells slots pc L st w :=
  fun H locs ls hP hD hS hL => k H locs ls hP hD hS ⟨hL.1, hL.2.1, fun i v h => hL.2.2 i v (ax_fg_sub ks L i v (by rw [hl]; exact h))⟩
end HP
end
