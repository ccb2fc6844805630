/-! abstract worlds: a reference is a place in the list of cells; ad gives the address of a place -/
def ax_v (ad : Nat → Nat) (v : Value) : Value := match v with
  | .ref k => .ref (ad k)
  | .int x => .int x
  | .long x => .long x
  | .float x => .float x
  | .double x => .double x
  | .null => .null
  | .retAddr x => .ref x
theorem ax_v_cat (ad : Nat → Nat) (v : Value) : (ax_v ad v).category = v.category := by cases v <;> rfl
def ax_A (ad : Nat → Nat) (a : vp_A) : vp_A := match a with
  | (n, .inl f) => (n, .inl f)
  | (n, .inr (.inl f)) => (n, .inr (.inl f))
  | (n, .inr (.inr (.inl f))) => (n, .inr (.inr (.inl f)))
  | (n, .inr (.inr (.inr (.inl f)))) => (n, .inr (.inr (.inr (.inl f))))
  | (n, .inr (.inr (.inr (.inr f)))) => (n, .inr (.inr (.inr (.inr (fun j => (f j).map ad)))))
def ax_E (ad ca : Nat → Nat) (q : va_E) : va_E := match q with
  | .inl (c, a) => .inl (ca c, ax_A ad a)
  | .inr (c, fs) => .inr (c, fs.map (ax_v ad))
def ax_W (ad ca : Nat → Nat) (w : List va_E) : va_W := w.mapIdx (fun k c => (ad k, ax_E ad ca c))
/-- the array classes: 0 int, 1 long, 2 boolean, 3 long[] -/
def ax_ty (ca : Nat → Nat) : List (ClassId × FieldType) := [(ca 0, .int), (ca 1, .long), (ca 2, .boolean), (ca 3, .array .long)]
theorem ax_W_get (ad ca : Nat → Nat) (w : List va_E) (k : Nat) : (ax_W ad ca w)[k]? = (w[k]?).map (fun c => (ad k, ax_E ad ca c)) := by
  simp [ax_W, List.getElem?_mapIdx]
theorem ax_W_at {ad ca : Nat → Nat} {w : List va_E} {k : Nat} {c : va_E} (h : w[k]? = some c) : (ax_W ad ca w)[k]? = some (ad k, ax_E ad ca c) := by
  rw [ax_W_get, h]; rfl
theorem ax_W_set (ad ca : Nat → Nat) (w : List va_E) (k : Nat) (c : va_E) : (ax_W ad ca w).set k (ad k, ax_E ad ca c) = ax_W ad ca (w.set k c) := by
  apply List.ext_getElem?
  intro i
  rw [List.getElem?_set, ax_W_get, ax_W_get, List.getElem?_set]
  have hl : (ax_W ad ca w).length = w.length := by simp [ax_W]
  rw [hl]
  by_cases h : k = i
  · subst h
    by_cases h2 : k < w.length <;> simp [h2]
  · simp [h]
/-! locals: place by place -/
def ax_L (ls : Array Slot) (nL : Nat) (ad : Nat → Nat) (L : List (Option Value)) : Prop := ls.size = nL ∧ lv_wf ls ∧ ∀ (i : Nat) (v : Value), L[i]? = some (some v) → ls[i]? = some (.val (ax_v ad v))
def ax_ll (ad : Nat → Nat) (L : List (Option Value)) : List (Nat × Value) := (List.range L.length).filterMap (fun i => match L[i]? with
  | some (some v) => some (i, ax_v ad v)
  | _ => none)
theorem ax_ll_in {ad : Nat → Nat} {L : List (Option Value)} {i : Nat} {v : Value} (h : L[i]? = some (some v)) : (i, ax_v ad v) ∈ ax_ll ad L := by
  refine List.mem_filterMap.mpr ⟨i, List.mem_range.mpr (List.getElem?_eq_some_iff.mp h).1, ?_⟩
  rw [h]
theorem ax_ll_of {ad : Nat → Nat} {L : List (Option Value)} {q : Nat × Value} (h : q ∈ ax_ll ad L) : ∃ v, L[q.1]? = some (some v) ∧ q.2 = ax_v ad v := by
  obtain ⟨i, -, hi⟩ := List.mem_filterMap.mp h
  cases hL : L[i]? with
  | none => rw [hL] at hi; cases hi
  | some o =>
    cases o with
    | none => rw [hL] at hi; cases hi
    | some v =>
      rw [hL] at hi
      cases hi
      exact ⟨v, hL, rfl⟩
theorem ax_L.has {ls : Array Slot} {nL : Nat} {ad : Nat → Nat} {L : List (Option Value)} (h : ax_L ls nL ad L) : lv_has ls nL (ax_ll ad L) := by
  refine ⟨h.1, h.2.1, fun q hq => ?_⟩
  obtain ⟨v, h1, h2⟩ := ax_ll_of hq
  rw [h2]
  exact h.2.2 _ _ h1
def ax_cb (L : List (Option Value)) (i : Nat) : List (Option Value) := match i with
  | 0 => L
  | j + 1 => match L[j]? with
    | some (some (.long _)) => L.set j none
    | some (some (.double _)) => L.set j none
    | _ => L
def ax_s1 (L : List (Option Value)) (i : Nat) (v : Value) : List (Option Value) := (ax_cb L i).set i (some v)
def ax_s2 (L : List (Option Value)) (i : Nat) (v : Value) : List (Option Value) := ((ax_cb L i).set (i + 1) none).set i (some v)
theorem ax_cb_sub {L : List (Option Value)} {i j : Nat} {u : Value} (h : (ax_cb L i)[j]? = some (some u)) : L[j]? = some (some u) ∧ ¬ (j + 1 = i ∧ u.category = 2) := by
  cases i with
  | zero => exact ⟨h, fun z => by omega⟩
  | succ k =>
    have key : ∀ (o : Option (Option Value)), L[k]? = o → (L.set k none)[j]? = some (some u) → L[j]? = some (some u) ∧ ¬ (j + 1 = k + 1 ∧ u.category = 2) := by
      intro o _ h
      rw [List.getElem?_set] at h
      by_cases hk : k = j
      · rw [if_pos hk] at h
        split at h <;> cases h
      · rw [if_neg hk] at h
        exact ⟨h, fun z => hk (by omega)⟩
    have h2 : (match L[k]? with
      | some (some (.long _)) => L.set k none
      | some (some (.double _)) => L.set k none
      | _ => L)[j]? = some (some u) := h
    clear h
    split at h2
    · exact key _ rfl h2
    · exact key _ rfl h2
    · rename_i n1 n2
      have h := h2
      refine ⟨h, fun z => ?_⟩
      obtain ⟨z1, z2⟩ := z
      have : j = k := by omega
      subst this
      cases u with
      | long x => exact n1 x h
      | double x => exact n2 x h
      | _ => simp [Value.category] at z2
theorem ax_L.s1 {ls' : Array Slot} {nL i : Nat} {ad : Nat → Nat} {L : List (Option Value)} {v : Value} (h : lv_has ls' nL ((i, ax_v ad v) :: (ax_ll ad L).filter (fun q => !(q.1 == i) && !(q.1 + 1 == i && q.2.category == 2)))) : ax_L ls' nL ad (ax_s1 L i v) := by
  refine ⟨h.1, h.2.1, fun j u hj => ?_⟩
  unfold ax_s1 at hj
  rw [List.getElem?_set] at hj
  by_cases hi : i = j
  · subst hi
    rw [if_pos rfl] at hj
    split at hj
    · cases hj
      exact h.2.2 (i, ax_v ad v) List.mem_cons_self
    · cases hj
  · rw [if_neg hi] at hj
    obtain ⟨h1, h2⟩ := ax_cb_sub hj
    refine h.2.2 (j, ax_v ad u) (List.mem_cons_of_mem _ (List.mem_filter.mpr ⟨ax_ll_in h1, ?_⟩))
    have e1 : (j == i) = false := by simpa using fun z : j = i => hi z.symm
    have e2 : (j + 1 == i && (ax_v ad u).category == 2) = false := by
      rw [ax_v_cat]
      cases hx : (j + 1 == i && u.category == 2) with
      | false => rfl
      | true => simp at hx; exact absurd hx h2
    simp only [e1, e2]
    rfl
theorem ax_L.s2 {ls' : Array Slot} {nL i : Nat} {ad : Nat → Nat} {L : List (Option Value)} {v : Value} (h : lv_has ls' nL ((i, ax_v ad v) :: (ax_ll ad L).filter (fun q => !(q.1 == i) && (!(q.1 == i + 1) && !(q.1 + 1 == i && q.2.category == 2))))) : ax_L ls' nL ad (ax_s2 L i v) := by
  refine ⟨h.1, h.2.1, fun j u hj => ?_⟩
  unfold ax_s2 at hj
  rw [List.getElem?_set] at hj
  by_cases hi : i = j
  · subst hi
    rw [if_pos rfl] at hj
    split at hj
    · cases hj
      exact h.2.2 (i, ax_v ad v) List.mem_cons_self
    · cases hj
  · rw [if_neg hi, List.getElem?_set] at hj
    by_cases hi2 : i + 1 = j
    · rw [if_pos hi2] at hj
      split at hj <;> cases hj
    · rw [if_neg hi2] at hj
      obtain ⟨h1, h2⟩ := ax_cb_sub hj
      refine h.2.2 (j, ax_v ad u) (List.mem_cons_of_mem _ (List.mem_filter.mpr ⟨ax_ll_in h1, ?_⟩))
      have e1 : (j == i) = false := by simpa using fun z : j = i => hi z.symm
      have e3 : (j == i + 1) = false := by simpa using fun z : j = i + 1 => hi2 z.symm
      have e2 : (j + 1 == i && (ax_v ad u).category == 2) = false := by
        rw [ax_v_cat]
        cases hx : (j + 1 == i && u.category == 2) with
        | false => rfl
        | true => simp at hx; exact absurd hx h2
      simp only [e1, e2, e3]
      rfl
/-- the locals with which a method begins -/
def ax_ar : List Value → List (Option Value)
  | [] => []
  | .long x :: vs => some (.long x) :: none :: ax_ar vs
  | .double x :: vs => some (.double x) :: none :: ax_ar vs
  | v :: vs => some v :: ax_ar vs
def ax_en (n : Nat) (vs : List Value) : List (Option Value) := ax_ar vs ++ List.replicate (n - (ax_ar vs).length) none
theorem ax_ar_in (ad : Nat → Nat) (vs : List Value) : ∀ (b i : Nat) (v : Value), (ax_ar vs)[i]? = some (some v) → (b + i, ax_v ad v) ∈ lv_args b (vs.map (ax_v ad)) := by
  induction vs with
  | nil => intro b i v h; simp [ax_ar] at h
  | cons u vs ih =>
    intro b i v h
    have one : u.category = 1 → ax_ar (u :: vs) = some u :: ax_ar vs → (b + i, ax_v ad v) ∈ lv_args b ((u :: vs).map (ax_v ad)) := by
      intro hc he
      rw [he] at h
      show _ ∈ (b, ax_v ad u) :: lv_args _ _
      rw [ax_v_cat, if_neg (by omega)]
      cases i with
      | zero => simp at h; subst h; exact List.mem_cons_self
      | succ k =>
        simp at h
        have := ih (b + 1) k v h
        rw [show b + (k + 1) = b + 1 + k by omega]
        exact List.mem_cons_of_mem _ this
    have two : u.category = 2 → ax_ar (u :: vs) = some u :: none :: ax_ar vs → (b + i, ax_v ad v) ∈ lv_args b ((u :: vs).map (ax_v ad)) := by
      intro hc he
      rw [he] at h
      show _ ∈ (b, ax_v ad u) :: lv_args _ _
      rw [ax_v_cat, if_pos hc]
      cases i with
      | zero => simp at h; subst h; exact List.mem_cons_self
      | succ k =>
        cases k with
        | zero => simp at h
        | succ k =>
          simp at h
          have := ih (b + 2) k v h
          rw [show b + (k + 1 + 1) = b + 2 + k by omega]
          exact List.mem_cons_of_mem _ this
    cases u with
    | long x => exact two rfl rfl
    | double x => exact two rfl rfl
    | _ => exact one rfl rfl
theorem ax_ar_len (ad : Nat → Nat) (vs : List Value) : (lg_sl (vs.map (ax_v ad))).length = (ax_ar vs).length := by
  induction vs with
  | nil => rfl
  | cons u vs ih =>
    have h : lg_sl ((u :: vs).map (ax_v ad)) = (if (ax_v ad u).category = 2 then [Slot.val (ax_v ad u), Slot.second] else [Slot.val (ax_v ad u)]) ++ lg_sl (vs.map (ax_v ad)) := by simp [lg_sl]
    rw [h, List.length_append, ih]
    cases u <;> simp [ax_ar, ax_v, Value.category] <;> omega
theorem ax_L.en (ad : Nat → Nat) (vs : List Value) {n : Nat} (h : (ax_ar vs).length ≤ n) : ax_L ((lg_sl (vs.map (ax_v ad)) ++ List.replicate (n - (lg_sl (vs.map (ax_v ad))).length) Slot.unset).toArray) n ad (ax_en n vs) := by
  have h0 := lv_entry (vs.map (ax_v ad)) (n := n) (by rw [ax_ar_len]; exact h)
  refine ⟨h0.1, h0.2.1, fun i v hi => ?_⟩
  unfold ax_en at hi
  by_cases hl : i < (ax_ar vs).length
  · rw [List.getElem?_append_left hl] at hi
    have := ax_ar_in ad vs 0 i v hi
    rw [Nat.zero_add] at this
    exact h0.2.2 _ this
  · rw [List.getElem?_append_right (by omega), List.getElem?_replicate] at hi
    split at hi <;> cases hi
/-! the judgement: what W says, of every heap that holds the world -/
def av_K (p : Program) (s : State) (m : MethodId) (args : Array Value) (meth : Method) (c : Code) (D : va_G) (cl : List vw_C) (ca : Nat → Nat) (A : Nat → Prop) (cc : ByteArray) (nL : Nat) (own : String) (Ts : List Cond) : Prop :=
  p.tables.exec = Jvm.exec ∧ c.code = cc ∧ c.maxLocals = nL ∧ s.vm.findClass own = some m.cls ∧ (∀ w ∈ Ts, w.before args s = true) ∧ va_K D cl (ax_ty ca) s ∧ (∀ q : Nat, s.heap.size ≤ q → A q) ∧ meth.locks = false
def av_V (p : Program) (l : Launch) (e : Env) (R : Room) (s : State) (m : MethodId) (args : Array Value) (below : List Frame) (meth : Method) (c : Code) (D : va_G) (cl : List vw_C) (A : Nat → Prop) (ad ca : Nat → Nat) (nL : Nat) (Q : State → Prop) (cells slots pc : Nat) (L : List (Option Value)) (st : List Value) (w : List va_E) : Prop :=
  ∀ (H : Heap) (locs : List Loc) (ls : Array Slot), va_P D cl (ax_W ad ca w) H → va_D A (ax_W ad ca w) → va_S A s.heap H locs → ax_L ls nL ad L → W p l e R s m args below meth c H locs cells slots Q (F0 m pc ls (st.map (ax_v ad)))
section AV
variable {p : Program} {l : Launch} {e : Env} {R : Room} {s : State} {m : MethodId} {args : Array Value} {below : List Frame} {meth : Method} {c : Code} {cells slots : Nat} {Q : State → Prop}
variable {D : va_G} {cl : List vw_C} {A : Nat → Prop} {ad ca : Nat → Nat} {cc : ByteArray} {nL : Nat} {own : String} {Ts : List Cond}
variable {pc : Nat} {L L' : List (Option Value)} {st : List Value} {w w' : List va_E}

theorem av_iconst (K : av_K p s m args meth c D cl ca A cc nL own Ts) {n : Int} {v : Int32} (hd : decode cc pc = .ok (.iconst n, 1)) (hv : Int32.ofInt n = v) (k : av_V p l e R s m args below meth c D cl A ad ca nL Q cells slots (pc + 1) L (.int v :: st) w) : av_V p l e R s m args below meth c D cl A ad ca nL Q cells slots pc L (st) w := fun H locs ls hP hD hS hL => lv_iconst K.1 K.2.1 hd hv (k H locs ls hP hD hS hL)
theorem av_bipush (K : av_K p s m args meth c D cl ca A cc nL own Ts) {n : Int} {v : Int32} (hd : decode cc pc = .ok (.bipush n, 2)) (hv : (Int8.ofInt n).toInt32 = v) (k : av_V p l e R s m args below meth c D cl A ad ca nL Q cells slots (pc + 2) L (.int v :: st) w) : av_V p l e R s m args below meth c D cl A ad ca nL Q cells slots pc L (st) w := fun H locs ls hP hD hS hL => lv_bipush K.1 K.2.1 hd hv (k H locs ls hP hD hS hL)
theorem av_sipush (K : av_K p s m args meth c D cl ca A cc nL own Ts) {n : Int} {v : Int32} (hd : decode cc pc = .ok (.sipush n, 3)) (hv : (Int16.ofInt n).toInt32 = v) (k : av_V p l e R s m args below meth c D cl A ad ca nL Q cells slots (pc + 3) L (.int v :: st) w) : av_V p l e R s m args below meth c D cl A ad ca nL Q cells slots pc L (st) w := fun H locs ls hP hD hS hL => lv_sipush K.1 K.2.1 hd hv (k H locs ls hP hD hS hL)
theorem av_lconst (K : av_K p s m args meth c D cl ca A cc nL own Ts) {n : Fin 2} {v : Int64} (hd : decode cc pc = .ok (.lconst n, 1)) (hv : Int64.ofNat (n : Nat) = v) (k : av_V p l e R s m args below meth c D cl A ad ca nL Q cells slots (pc + 1) L (.long v :: st) w) : av_V p l e R s m args below meth c D cl A ad ca nL Q cells slots pc L (st) w := fun H locs ls hP hD hS hL => lv_lconst K.1 K.2.1 hd hv (k H locs ls hP hD hS hL)
theorem av_iload_n (K : av_K p s m args meth c D cl ca A cc nL own Ts) {k0 : Fin 4} {i : Nat} {x : Int32} (hd : decode cc pc = .ok (.iload_n k0, 1)) (hi : (k0 : Nat) = i) (hl : L[i]? = some (some (.int x))) (k : av_V p l e R s m args below meth c D cl A ad ca nL Q cells slots (pc + 1) L (.int x :: st) w) : av_V p l e R s m args below meth c D cl A ad ca nL Q cells slots pc L (st) w := fun H locs ls hP hD hS hL => lv_iload_n K.1 K.2.1 hd hi (hL.2.2 i _ hl) (k H locs ls hP hD hS hL)
theorem av_iload (K : av_K p s m args meth c D cl ca A cc nL own Ts) {i : Nat} {x : Int32} (hd : decode cc pc = .ok (.iload i, 2)) (hl : L[i]? = some (some (.int x))) (k : av_V p l e R s m args below meth c D cl A ad ca nL Q cells slots (pc + 2) L (.int x :: st) w) : av_V p l e R s m args below meth c D cl A ad ca nL Q cells slots pc L (st) w := fun H locs ls hP hD hS hL => lv_iload K.1 K.2.1 hd (hL.2.2 i _ hl) (k H locs ls hP hD hS hL)
theorem av_istore_n (K : av_K p s m args meth c D cl ca A cc nL own Ts) {k0 : Fin 4} {i : Nat} {x : Int32} (hd : decode cc pc = .ok (.istore_n k0, 1)) (hi : (k0 : Nat) = i) (hn : i < nL) (hl : ax_s1 L i (.int x) = L') (k : av_V p l e R s m args below meth c D cl A ad ca nL Q cells slots (pc + 1) L' st w) : av_V p l e R s m args below meth c D cl A ad ca nL Q cells slots pc L (.int x :: st) w := fun H locs ls hP hD hS hL => lv_istore_n K.1 K.2.1 hd hi hL.has hn rfl (fun ls' h' => k H locs ls' hP hD hS (hl ▸ ax_L.s1 (v := .int x) h'))
theorem av_istore (K : av_K p s m args meth c D cl ca A cc nL own Ts) {i : Nat} {x : Int32} (hd : decode cc pc = .ok (.istore i, 2)) (hn : i < nL) (hl : ax_s1 L i (.int x) = L') (k : av_V p l e R s m args below meth c D cl A ad ca nL Q cells slots (pc + 2) L' st w) : av_V p l e R s m args below meth c D cl A ad ca nL Q cells slots pc L (.int x :: st) w := fun H locs ls hP hD hS hL => lv_istore K.1 K.2.1 hd hL.has hn rfl (fun ls' h' => k H locs ls' hP hD hS (hl ▸ ax_L.s1 (v := .int x) h'))
theorem av_lload_n (K : av_K p s m args meth c D cl ca A cc nL own Ts) {k0 : Fin 4} {i : Nat} {x : Int64} (hd : decode cc pc = .ok (.lload_n k0, 1)) (hi : (k0 : Nat) = i) (hl : L[i]? = some (some (.long x))) (k : av_V p l e R s m args below meth c D cl A ad ca nL Q cells slots (pc + 1) L (.long x :: st) w) : av_V p l e R s m args below meth c D cl A ad ca nL Q cells slots pc L (st) w := fun H locs ls hP hD hS hL => lv_lload_n K.1 K.2.1 hd hi (hL.2.2 i _ hl) (k H locs ls hP hD hS hL)
theorem av_lload (K : av_K p s m args meth c D cl ca A cc nL own Ts) {i : Nat} {x : Int64} (hd : decode cc pc = .ok (.lload i, 2)) (hl : L[i]? = some (some (.long x))) (k : av_V p l e R s m args below meth c D cl A ad ca nL Q cells slots (pc + 2) L (.long x :: st) w) : av_V p l e R s m args below meth c D cl A ad ca nL Q cells slots pc L (st) w := fun H locs ls hP hD hS hL => lv_lload K.1 K.2.1 hd (hL.2.2 i _ hl) (k H locs ls hP hD hS hL)
theorem av_lstore_n (K : av_K p s m args meth c D cl ca A cc nL own Ts) {k0 : Fin 4} {i : Nat} {x : Int64} (hd : decode cc pc = .ok (.lstore_n k0, 1)) (hi : (k0 : Nat) = i) (hn : i + 1 < nL) (hl : ax_s2 L i (.long x) = L') (k : av_V p l e R s m args below meth c D cl A ad ca nL Q cells slots (pc + 1) L' st w) : av_V p l e R s m args below meth c D cl A ad ca nL Q cells slots pc L (.long x :: st) w := fun H locs ls hP hD hS hL => lv_lstore_n K.1 K.2.1 hd hi hL.has hn rfl (fun ls' h' => k H locs ls' hP hD hS (hl ▸ ax_L.s2 (v := .long x) h'))
theorem av_lstore (K : av_K p s m args meth c D cl ca A cc nL own Ts) {i : Nat} {x : Int64} (hd : decode cc pc = .ok (.lstore i, 2)) (hn : i + 1 < nL) (hl : ax_s2 L i (.long x) = L') (k : av_V p l e R s m args below meth c D cl A ad ca nL Q cells slots (pc + 2) L' st w) : av_V p l e R s m args below meth c D cl A ad ca nL Q cells slots pc L (.long x :: st) w := fun H locs ls hP hD hS hL => lv_lstore K.1 K.2.1 hd hL.has hn rfl (fun ls' h' => k H locs ls' hP hD hS (hl ▸ ax_L.s2 (v := .long x) h'))
theorem av_aload_n (K : av_K p s m args meth c D cl ca A cc nL own Ts) {k0 : Fin 4} {i : Nat} {x : Nat} (hd : decode cc pc = .ok (.aload_n k0, 1)) (hi : (k0 : Nat) = i) (hl : L[i]? = some (some (.ref x))) (k : av_V p l e R s m args below meth c D cl A ad ca nL Q cells slots (pc + 1) L (.ref x :: st) w) : av_V p l e R s m args below meth c D cl A ad ca nL Q cells slots pc L (st) w := fun H locs ls hP hD hS hL => lv_aload_n K.1 K.2.1 hd hi (hL.2.2 i _ hl) (k H locs ls hP hD hS hL)
theorem av_aload (K : av_K p s m args meth c D cl ca A cc nL own Ts) {i : Nat} {x : Nat} (hd : decode cc pc = .ok (.aload i, 2)) (hl : L[i]? = some (some (.ref x))) (k : av_V p l e R s m args below meth c D cl A ad ca nL Q cells slots (pc + 2) L (.ref x :: st) w) : av_V p l e R s m args below meth c D cl A ad ca nL Q cells slots pc L (st) w := fun H locs ls hP hD hS hL => lv_aload K.1 K.2.1 hd (hL.2.2 i _ hl) (k H locs ls hP hD hS hL)
theorem av_astore_n (K : av_K p s m args meth c D cl ca A cc nL own Ts) {k0 : Fin 4} {i : Nat} {x : Nat} (hd : decode cc pc = .ok (.astore_n k0, 1)) (hi : (k0 : Nat) = i) (hn : i < nL) (hl : ax_s1 L i (.ref x) = L') (k : av_V p l e R s m args below meth c D cl A ad ca nL Q cells slots (pc + 1) L' st w) : av_V p l e R s m args below meth c D cl A ad ca nL Q cells slots pc L (.ref x :: st) w := fun H locs ls hP hD hS hL => lv_astore_n K.1 K.2.1 hd hi hL.has hn rfl (fun ls' h' => k H locs ls' hP hD hS (hl ▸ ax_L.s1 (v := .ref x) h'))
theorem av_astore (K : av_K p s m args meth c D cl ca A cc nL own Ts) {i : Nat} {x : Nat} (hd : decode cc pc = .ok (.astore i, 2)) (hn : i < nL) (hl : ax_s1 L i (.ref x) = L') (k : av_V p l e R s m args below meth c D cl A ad ca nL Q cells slots (pc + 2) L' st w) : av_V p l e R s m args below meth c D cl A ad ca nL Q cells slots pc L (.ref x :: st) w := fun H locs ls hP hD hS hL => lv_astore K.1 K.2.1 hd hL.has hn rfl (fun ls' h' => k H locs ls' hP hD hS (hl ▸ ax_L.s1 (v := .ref x) h'))
theorem av_iinc (K : av_K p s m args meth c D cl ca A cc nL own Ts) {i : Nat} {n : Int} {x v : Int32} (hd : decode cc pc = .ok (.iinc i n, 3)) (hx : L[i]? = some (some (.int x))) (hv : x + Int32.ofInt n = v) (hn : i < nL) (hl : ax_s1 L i (.int v) = L') (k : av_V p l e R s m args below meth c D cl A ad ca nL Q cells slots (pc + 3) L' st w) : av_V p l e R s m args below meth c D cl A ad ca nL Q cells slots pc L st w := fun H locs ls hP hD hS hL => by
  have h0 : lv_has ls nL ((i, .int x) :: ax_ll ad L) := ⟨hL.1, hL.2.1, fun q hq => by
    rcases List.mem_cons.mp hq with h | h
    · subst h; exact hL.2.2 i _ hx
    · exact hL.has.2.2 q h⟩
  refine lv_iinc (k := 0) K.1 K.2.1 hd h0 rfl hv hn rfl (fun ls' h' => k H locs ls' hP hD hS (hl ▸ ax_L.s1 (v := .int v) ⟨h'.1, h'.2.1, fun q hq => h'.2.2 q ?_⟩))
  rcases List.mem_cons.mp hq with h | h
  · subst h; exact List.mem_cons_self
  · refine List.mem_cons_of_mem _ (List.mem_filter.mpr ⟨List.mem_cons_of_mem _ (List.mem_filter.mp h).1, (List.mem_filter.mp h).2⟩)
theorem av_iadd (K : av_K p s m args meth c D cl ca A cc nL own Ts) {x y : Int32} (hd : decode cc pc = .ok (.iadd, 1)) (k : av_V p l e R s m args below meth c D cl A ad ca nL Q cells slots (pc + 1) L (.int (x + y) :: st) w) : av_V p l e R s m args below meth c D cl A ad ca nL Q cells slots pc L (.int y :: .int x :: st) w := fun H locs ls hP hD hS hL => lv_iadd K.1 K.2.1 hd (k H locs ls hP hD hS hL)
theorem av_isub (K : av_K p s m args meth c D cl ca A cc nL own Ts) {x y : Int32} (hd : decode cc pc = .ok (.isub, 1)) (k : av_V p l e R s m args below meth c D cl A ad ca nL Q cells slots (pc + 1) L (.int (x - y) :: st) w) : av_V p l e R s m args below meth c D cl A ad ca nL Q cells slots pc L (.int y :: .int x :: st) w := fun H locs ls hP hD hS hL => lv_isub K.1 K.2.1 hd (k H locs ls hP hD hS hL)
theorem av_imul (K : av_K p s m args meth c D cl ca A cc nL own Ts) {x y : Int32} (hd : decode cc pc = .ok (.imul, 1)) (k : av_V p l e R s m args below meth c D cl A ad ca nL Q cells slots (pc + 1) L (.int (x * y) :: st) w) : av_V p l e R s m args below meth c D cl A ad ca nL Q cells slots pc L (.int y :: .int x :: st) w := fun H locs ls hP hD hS hL => lv_imul K.1 K.2.1 hd (k H locs ls hP hD hS hL)
theorem av_iand (K : av_K p s m args meth c D cl ca A cc nL own Ts) {x y : Int32} (hd : decode cc pc = .ok (.iand, 1)) (k : av_V p l e R s m args below meth c D cl A ad ca nL Q cells slots (pc + 1) L (.int (x &&& y) :: st) w) : av_V p l e R s m args below meth c D cl A ad ca nL Q cells slots pc L (.int y :: .int x :: st) w := fun H locs ls hP hD hS hL => lv_iand K.1 K.2.1 hd (k H locs ls hP hD hS hL)
theorem av_ior (K : av_K p s m args meth c D cl ca A cc nL own Ts) {x y : Int32} (hd : decode cc pc = .ok (.ior, 1)) (k : av_V p l e R s m args below meth c D cl A ad ca nL Q cells slots (pc + 1) L (.int (x ||| y) :: st) w) : av_V p l e R s m args below meth c D cl A ad ca nL Q cells slots pc L (.int y :: .int x :: st) w := fun H locs ls hP hD hS hL => lv_ior K.1 K.2.1 hd (k H locs ls hP hD hS hL)
theorem av_ixor (K : av_K p s m args meth c D cl ca A cc nL own Ts) {x y : Int32} (hd : decode cc pc = .ok (.ixor, 1)) (k : av_V p l e R s m args below meth c D cl A ad ca nL Q cells slots (pc + 1) L (.int (x ^^^ y) :: st) w) : av_V p l e R s m args below meth c D cl A ad ca nL Q cells slots pc L (.int y :: .int x :: st) w := fun H locs ls hP hD hS hL => lv_ixor K.1 K.2.1 hd (k H locs ls hP hD hS hL)
theorem av_ishl (K : av_K p s m args meth c D cl ca A cc nL own Ts) {x y : Int32} (hd : decode cc pc = .ok (.ishl, 1)) (k : av_V p l e R s m args below meth c D cl A ad ca nL Q cells slots (pc + 1) L (.int (x <<< (y &&& 31)) :: st) w) : av_V p l e R s m args below meth c D cl A ad ca nL Q cells slots pc L (.int y :: .int x :: st) w := fun H locs ls hP hD hS hL => lv_ishl K.1 K.2.1 hd (k H locs ls hP hD hS hL)
theorem av_ishr (K : av_K p s m args meth c D cl ca A cc nL own Ts) {x y : Int32} (hd : decode cc pc = .ok (.ishr, 1)) (k : av_V p l e R s m args below meth c D cl A ad ca nL Q cells slots (pc + 1) L (.int (x >>> (y &&& 31)) :: st) w) : av_V p l e R s m args below meth c D cl A ad ca nL Q cells slots pc L (.int y :: .int x :: st) w := fun H locs ls hP hD hS hL => lv_ishr K.1 K.2.1 hd (k H locs ls hP hD hS hL)
theorem av_idiv (K : av_K p s m args meth c D cl ca A cc nL own Ts) {x y : Int32} (hd : decode cc pc = .ok (.idiv, 1)) (hne : ¬ y = 0) (k : av_V p l e R s m args below meth c D cl A ad ca nL Q cells slots (pc + 1) L (.int (x / y) :: st) w) : av_V p l e R s m args below meth c D cl A ad ca nL Q cells slots pc L (.int y :: .int x :: st) w := fun H locs ls hP hD hS hL => lv_idiv K.1 K.2.1 hd hne (k H locs ls hP hD hS hL)
theorem av_irem (K : av_K p s m args meth c D cl ca A cc nL own Ts) {x y : Int32} (hd : decode cc pc = .ok (.irem, 1)) (hne : ¬ y = 0) (k : av_V p l e R s m args below meth c D cl A ad ca nL Q cells slots (pc + 1) L (.int (x - x / y * y) :: st) w) : av_V p l e R s m args below meth c D cl A ad ca nL Q cells slots pc L (.int y :: .int x :: st) w := fun H locs ls hP hD hS hL => lv_irem K.1 K.2.1 hd hne (k H locs ls hP hD hS hL)
theorem av_ladd (K : av_K p s m args meth c D cl ca A cc nL own Ts) {x y : Int64} (hd : decode cc pc = .ok (.ladd, 1)) (k : av_V p l e R s m args below meth c D cl A ad ca nL Q cells slots (pc + 1) L (.long (x + y) :: st) w) : av_V p l e R s m args below meth c D cl A ad ca nL Q cells slots pc L (.long y :: .long x :: st) w := fun H locs ls hP hD hS hL => lv_ladd K.1 K.2.1 hd (k H locs ls hP hD hS hL)
theorem av_lsub (K : av_K p s m args meth c D cl ca A cc nL own Ts) {x y : Int64} (hd : decode cc pc = .ok (.lsub, 1)) (k : av_V p l e R s m args below meth c D cl A ad ca nL Q cells slots (pc + 1) L (.long (x - y) :: st) w) : av_V p l e R s m args below meth c D cl A ad ca nL Q cells slots pc L (.long y :: .long x :: st) w := fun H locs ls hP hD hS hL => lv_lsub K.1 K.2.1 hd (k H locs ls hP hD hS hL)
theorem av_lmul (K : av_K p s m args meth c D cl ca A cc nL own Ts) {x y : Int64} (hd : decode cc pc = .ok (.lmul, 1)) (k : av_V p l e R s m args below meth c D cl A ad ca nL Q cells slots (pc + 1) L (.long (x * y) :: st) w) : av_V p l e R s m args below meth c D cl A ad ca nL Q cells slots pc L (.long y :: .long x :: st) w := fun H locs ls hP hD hS hL => lv_lmul K.1 K.2.1 hd (k H locs ls hP hD hS hL)
theorem av_land (K : av_K p s m args meth c D cl ca A cc nL own Ts) {x y : Int64} (hd : decode cc pc = .ok (.land, 1)) (k : av_V p l e R s m args below meth c D cl A ad ca nL Q cells slots (pc + 1) L (.long (x &&& y) :: st) w) : av_V p l e R s m args below meth c D cl A ad ca nL Q cells slots pc L (.long y :: .long x :: st) w := fun H locs ls hP hD hS hL => lv_land K.1 K.2.1 hd (k H locs ls hP hD hS hL)
theorem av_lor (K : av_K p s m args meth c D cl ca A cc nL own Ts) {x y : Int64} (hd : decode cc pc = .ok (.lor, 1)) (k : av_V p l e R s m args below meth c D cl A ad ca nL Q cells slots (pc + 1) L (.long (x ||| y) :: st) w) : av_V p l e R s m args below meth c D cl A ad ca nL Q cells slots pc L (.long y :: .long x :: st) w := fun H locs ls hP hD hS hL => lv_lor K.1 K.2.1 hd (k H locs ls hP hD hS hL)
theorem av_lxor (K : av_K p s m args meth c D cl ca A cc nL own Ts) {x y : Int64} (hd : decode cc pc = .ok (.lxor, 1)) (k : av_V p l e R s m args below meth c D cl A ad ca nL Q cells slots (pc + 1) L (.long (x ^^^ y) :: st) w) : av_V p l e R s m args below meth c D cl A ad ca nL Q cells slots pc L (.long y :: .long x :: st) w := fun H locs ls hP hD hS hL => lv_lxor K.1 K.2.1 hd (k H locs ls hP hD hS hL)
theorem av_lneg (K : av_K p s m args meth c D cl ca A cc nL own Ts) {x : Int64} (hd : decode cc pc = .ok (.lneg, 1)) (k : av_V p l e R s m args below meth c D cl A ad ca nL Q cells slots (pc + 1) L (.long (-x) :: st) w) : av_V p l e R s m args below meth c D cl A ad ca nL Q cells slots pc L (.long x :: st) w := fun H locs ls hP hD hS hL => lv_lneg K.1 K.2.1 hd (k H locs ls hP hD hS hL)
theorem av_i2l (K : av_K p s m args meth c D cl ca A cc nL own Ts) {x : Int32} (hd : decode cc pc = .ok (.i2l, 1)) (k : av_V p l e R s m args below meth c D cl A ad ca nL Q cells slots (pc + 1) L (.long x.toInt64 :: st) w) : av_V p l e R s m args below meth c D cl A ad ca nL Q cells slots pc L (.int x :: st) w := fun H locs ls hP hD hS hL => lv_i2l K.1 K.2.1 hd rfl (k H locs ls hP hD hS hL)
theorem av_l2i (K : av_K p s m args meth c D cl ca A cc nL own Ts) {x : Int64} (hd : decode cc pc = .ok (.l2i, 1)) (k : av_V p l e R s m args below meth c D cl A ad ca nL Q cells slots (pc + 1) L (.int x.toInt32 :: st) w) : av_V p l e R s m args below meth c D cl A ad ca nL Q cells slots pc L (.long x :: st) w := fun H locs ls hP hD hS hL => lv_l2i K.1 K.2.1 hd rfl (k H locs ls hP hD hS hL)
theorem av_lushr (K : av_K p s m args meth c D cl ca A cc nL own Ts) {x : Int64} {y : Int32} (hd : decode cc pc = .ok (.lushr, 1)) (k : av_V p l e R s m args below meth c D cl A ad ca nL Q cells slots (pc + 1) L (.long (x.toUInt64 >>> (y.toInt64.toUInt64 &&& Int64.toUInt64 63)).toInt64 :: st) w) : av_V p l e R s m args below meth c D cl A ad ca nL Q cells slots pc L (.int y :: .long x :: st) w := fun H locs ls hP hD hS hL => lv_lushr K.1 K.2.1 hd rfl (k H locs ls hP hD hS hL)
theorem av_lshl (K : av_K p s m args meth c D cl ca A cc nL own Ts) {x : Int64} {y : Int32} (hd : decode cc pc = .ok (.lshl, 1)) (k : av_V p l e R s m args below meth c D cl A ad ca nL Q cells slots (pc + 1) L (.long (x <<< (y.toInt64 &&& 63)) :: st) w) : av_V p l e R s m args below meth c D cl A ad ca nL Q cells slots pc L (.int y :: .long x :: st) w := fun H locs ls hP hD hS hL => lv_lshl K.1 K.2.1 hd rfl (k H locs ls hP hD hS hL)
theorem av_lshr (K : av_K p s m args meth c D cl ca A cc nL own Ts) {x : Int64} {y : Int32} (hd : decode cc pc = .ok (.lshr, 1)) (k : av_V p l e R s m args below meth c D cl A ad ca nL Q cells slots (pc + 1) L (.long (x >>> (y.toInt64 &&& 63)) :: st) w) : av_V p l e R s m args below meth c D cl A ad ca nL Q cells slots pc L (.int y :: .long x :: st) w := fun H locs ls hP hD hS hL => lv_lshr K.1 K.2.1 hd rfl (k H locs ls hP hD hS hL)
theorem av_lcmp (K : av_K p s m args meth c D cl ca A cc nL own Ts) {x y : Int64} (hd : decode cc pc = .ok (.lcmp, 1)) (k : av_V p l e R s m args below meth c D cl A ad ca nL Q cells slots (pc + 1) L (.int (lg_cmp x y) :: st) w) : av_V p l e R s m args below meth c D cl A ad ca nL Q cells slots pc L (.long y :: .long x :: st) w := fun H locs ls hP hD hS hL => W.lcmp K.1 K.2.1 hd (k H locs ls hP hD hS hL)
theorem av_dup (K : av_K p s m args meth c D cl ca A cc nL own Ts) {va : Value} (hd : decode cc pc = .ok (.dup, 1)) (hva : va.category = 1) (k : av_V p l e R s m args below meth c D cl A ad ca nL Q cells slots (pc + 1) L (va :: va :: st) w) : av_V p l e R s m args below meth c D cl A ad ca nL Q cells slots pc L (va :: st) w := fun H locs ls hP hD hS hL => lv_dup K.1 K.2.1 hd (by rw [ax_v_cat]; exact hva) (k H locs ls hP hD hS hL)
theorem av_dup2 (K : av_K p s m args meth c D cl ca A cc nL own Ts) {va vb : Value} (hd : decode cc pc = .ok (.dup2, 1)) (hva : va.category = 1) (hvb : vb.category = 1) (k : av_V p l e R s m args below meth c D cl A ad ca nL Q cells slots (pc + 1) L (va :: vb :: va :: vb :: st) w) : av_V p l e R s m args below meth c D cl A ad ca nL Q cells slots pc L (va :: vb :: st) w := fun H locs ls hP hD hS hL => lv_dup2_11 K.1 K.2.1 hd (by rw [ax_v_cat]; exact hva) (by rw [ax_v_cat]; exact hvb) (k H locs ls hP hD hS hL)
theorem av_dup_x1 (K : av_K p s m args meth c D cl ca A cc nL own Ts) {va vb : Value} (hd : decode cc pc = .ok (.dup_x1, 1)) (hva : va.category = 1) (hvb : vb.category = 1) (k : av_V p l e R s m args below meth c D cl A ad ca nL Q cells slots (pc + 1) L (va :: vb :: va :: st) w) : av_V p l e R s m args below meth c D cl A ad ca nL Q cells slots pc L (va :: vb :: st) w := fun H locs ls hP hD hS hL => lv_dup_x1 K.1 K.2.1 hd (by rw [ax_v_cat]; exact hva) (by rw [ax_v_cat]; exact hvb) (k H locs ls hP hD hS hL)
theorem av_pop (K : av_K p s m args meth c D cl ca A cc nL own Ts) {va : Value} (hd : decode cc pc = .ok (.pop, 1)) (hva : va.category = 1) (k : av_V p l e R s m args below meth c D cl A ad ca nL Q cells slots (pc + 1) L (st) w) : av_V p l e R s m args below meth c D cl A ad ca nL Q cells slots pc L (va :: st) w := fun H locs ls hP hD hS hL => lv_pop K.1 K.2.1 hd (by rw [ax_v_cat]; exact hva) (k H locs ls hP hD hS hL)
theorem av_if_eq (K : av_K p s m args meth c D cl ca A cc nL own Ts) {x : Int32} {off : Int} {tgt : Nat} (hd : decode cc pc = .ok (.ifCond .eq off, 3)) (ht : (pc : Int) + off = (tgt : Int)) (kt : x = 0 → av_V p l e R s m args below meth c D cl A ad ca nL Q cells slots tgt L st w) (kf : ¬ x = 0 → av_V p l e R s m args below meth c D cl A ad ca nL Q cells slots (pc + 3) L st w) : av_V p l e R s m args below meth c D cl A ad ca nL Q cells slots pc L (.int x :: st) w := fun H locs ls hP hD hS hL => lv_if_eq K.1 K.2.1 hd ht (fun h => kt h H locs ls hP hD hS hL) (fun h => kf h H locs ls hP hD hS hL)
theorem av_icmp_eq (K : av_K p s m args meth c D cl ca A cc nL own Ts) {x y : Int32} {off : Int} {tgt : Nat} (hd : decode cc pc = .ok (.if_icmp .eq off, 3)) (ht : (pc : Int) + off = (tgt : Int)) (kt : x = y → av_V p l e R s m args below meth c D cl A ad ca nL Q cells slots tgt L st w) (kf : ¬ x = y → av_V p l e R s m args below meth c D cl A ad ca nL Q cells slots (pc + 3) L st w) : av_V p l e R s m args below meth c D cl A ad ca nL Q cells slots pc L (.int y :: .int x :: st) w := fun H locs ls hP hD hS hL => lv_icmp_eq K.1 K.2.1 hd ht (fun h => kt h H locs ls hP hD hS hL) (fun h => kf h H locs ls hP hD hS hL)
theorem av_if_ne (K : av_K p s m args meth c D cl ca A cc nL own Ts) {x : Int32} {off : Int} {tgt : Nat} (hd : decode cc pc = .ok (.ifCond .ne off, 3)) (ht : (pc : Int) + off = (tgt : Int)) (kt : ¬ x = 0 → av_V p l e R s m args below meth c D cl A ad ca nL Q cells slots tgt L st w) (kf : x = 0 → av_V p l e R s m args below meth c D cl A ad ca nL Q cells slots (pc + 3) L st w) : av_V p l e R s m args below meth c D cl A ad ca nL Q cells slots pc L (.int x :: st) w := fun H locs ls hP hD hS hL => lv_if_ne K.1 K.2.1 hd ht (fun h => kt h H locs ls hP hD hS hL) (fun h => kf h H locs ls hP hD hS hL)
theorem av_icmp_ne (K : av_K p s m args meth c D cl ca A cc nL own Ts) {x y : Int32} {off : Int} {tgt : Nat} (hd : decode cc pc = .ok (.if_icmp .ne off, 3)) (ht : (pc : Int) + off = (tgt : Int)) (kt : ¬ x = y → av_V p l e R s m args below meth c D cl A ad ca nL Q cells slots tgt L st w) (kf : x = y → av_V p l e R s m args below meth c D cl A ad ca nL Q cells slots (pc + 3) L st w) : av_V p l e R s m args below meth c D cl A ad ca nL Q cells slots pc L (.int y :: .int x :: st) w := fun H locs ls hP hD hS hL => lv_icmp_ne K.1 K.2.1 hd ht (fun h => kt h H locs ls hP hD hS hL) (fun h => kf h H locs ls hP hD hS hL)
theorem av_if_lt (K : av_K p s m args meth c D cl ca A cc nL own Ts) {x : Int32} {off : Int} {tgt : Nat} (hd : decode cc pc = .ok (.ifCond .lt off, 3)) (ht : (pc : Int) + off = (tgt : Int)) (kt : x < 0 → av_V p l e R s m args below meth c D cl A ad ca nL Q cells slots tgt L st w) (kf : ¬ x < 0 → av_V p l e R s m args below meth c D cl A ad ca nL Q cells slots (pc + 3) L st w) : av_V p l e R s m args below meth c D cl A ad ca nL Q cells slots pc L (.int x :: st) w := fun H locs ls hP hD hS hL => lv_if_lt K.1 K.2.1 hd ht (fun h => kt h H locs ls hP hD hS hL) (fun h => kf h H locs ls hP hD hS hL)
theorem av_icmp_lt (K : av_K p s m args meth c D cl ca A cc nL own Ts) {x y : Int32} {off : Int} {tgt : Nat} (hd : decode cc pc = .ok (.if_icmp .lt off, 3)) (ht : (pc : Int) + off = (tgt : Int)) (kt : x < y → av_V p l e R s m args below meth c D cl A ad ca nL Q cells slots tgt L st w) (kf : ¬ x < y → av_V p l e R s m args below meth c D cl A ad ca nL Q cells slots (pc + 3) L st w) : av_V p l e R s m args below meth c D cl A ad ca nL Q cells slots pc L (.int y :: .int x :: st) w := fun H locs ls hP hD hS hL => lv_icmp_lt K.1 K.2.1 hd ht (fun h => kt h H locs ls hP hD hS hL) (fun h => kf h H locs ls hP hD hS hL)
theorem av_if_ge (K : av_K p s m args meth c D cl ca A cc nL own Ts) {x : Int32} {off : Int} {tgt : Nat} (hd : decode cc pc = .ok (.ifCond .ge off, 3)) (ht : (pc : Int) + off = (tgt : Int)) (kt : 0 ≤ x → av_V p l e R s m args below meth c D cl A ad ca nL Q cells slots tgt L st w) (kf : ¬ 0 ≤ x → av_V p l e R s m args below meth c D cl A ad ca nL Q cells slots (pc + 3) L st w) : av_V p l e R s m args below meth c D cl A ad ca nL Q cells slots pc L (.int x :: st) w := fun H locs ls hP hD hS hL => lv_if_ge K.1 K.2.1 hd ht (fun h => kt h H locs ls hP hD hS hL) (fun h => kf h H locs ls hP hD hS hL)
theorem av_icmp_ge (K : av_K p s m args meth c D cl ca A cc nL own Ts) {x y : Int32} {off : Int} {tgt : Nat} (hd : decode cc pc = .ok (.if_icmp .ge off, 3)) (ht : (pc : Int) + off = (tgt : Int)) (kt : y ≤ x → av_V p l e R s m args below meth c D cl A ad ca nL Q cells slots tgt L st w) (kf : ¬ y ≤ x → av_V p l e R s m args below meth c D cl A ad ca nL Q cells slots (pc + 3) L st w) : av_V p l e R s m args below meth c D cl A ad ca nL Q cells slots pc L (.int y :: .int x :: st) w := fun H locs ls hP hD hS hL => lv_icmp_ge K.1 K.2.1 hd ht (fun h => kt h H locs ls hP hD hS hL) (fun h => kf h H locs ls hP hD hS hL)
theorem av_if_gt (K : av_K p s m args meth c D cl ca A cc nL own Ts) {x : Int32} {off : Int} {tgt : Nat} (hd : decode cc pc = .ok (.ifCond .gt off, 3)) (ht : (pc : Int) + off = (tgt : Int)) (kt : 0 < x → av_V p l e R s m args below meth c D cl A ad ca nL Q cells slots tgt L st w) (kf : ¬ 0 < x → av_V p l e R s m args below meth c D cl A ad ca nL Q cells slots (pc + 3) L st w) : av_V p l e R s m args below meth c D cl A ad ca nL Q cells slots pc L (.int x :: st) w := fun H locs ls hP hD hS hL => lv_if_gt K.1 K.2.1 hd ht (fun h => kt h H locs ls hP hD hS hL) (fun h => kf h H locs ls hP hD hS hL)
theorem av_icmp_gt (K : av_K p s m args meth c D cl ca A cc nL own Ts) {x y : Int32} {off : Int} {tgt : Nat} (hd : decode cc pc = .ok (.if_icmp .gt off, 3)) (ht : (pc : Int) + off = (tgt : Int)) (kt : y < x → av_V p l e R s m args below meth c D cl A ad ca nL Q cells slots tgt L st w) (kf : ¬ y < x → av_V p l e R s m args below meth c D cl A ad ca nL Q cells slots (pc + 3) L st w) : av_V p l e R s m args below meth c D cl A ad ca nL Q cells slots pc L (.int y :: .int x :: st) w := fun H locs ls hP hD hS hL => lv_icmp_gt K.1 K.2.1 hd ht (fun h => kt h H locs ls hP hD hS hL) (fun h => kf h H locs ls hP hD hS hL)
theorem av_if_le (K : av_K p s m args meth c D cl ca A cc nL own Ts) {x : Int32} {off : Int} {tgt : Nat} (hd : decode cc pc = .ok (.ifCond .le off, 3)) (ht : (pc : Int) + off = (tgt : Int)) (kt : x ≤ 0 → av_V p l e R s m args below meth c D cl A ad ca nL Q cells slots tgt L st w) (kf : ¬ x ≤ 0 → av_V p l e R s m args below meth c D cl A ad ca nL Q cells slots (pc + 3) L st w) : av_V p l e R s m args below meth c D cl A ad ca nL Q cells slots pc L (.int x :: st) w := fun H locs ls hP hD hS hL => lv_if_le K.1 K.2.1 hd ht (fun h => kt h H locs ls hP hD hS hL) (fun h => kf h H locs ls hP hD hS hL)
theorem av_icmp_le (K : av_K p s m args meth c D cl ca A cc nL own Ts) {x y : Int32} {off : Int} {tgt : Nat} (hd : decode cc pc = .ok (.if_icmp .le off, 3)) (ht : (pc : Int) + off = (tgt : Int)) (kt : x ≤ y → av_V p l e R s m args below meth c D cl A ad ca nL Q cells slots tgt L st w) (kf : ¬ x ≤ y → av_V p l e R s m args below meth c D cl A ad ca nL Q cells slots (pc + 3) L st w) : av_V p l e R s m args below meth c D cl A ad ca nL Q cells slots pc L (.int y :: .int x :: st) w := fun H locs ls hP hD hS hL => lv_icmp_le K.1 K.2.1 hd ht (fun h => kt h H locs ls hP hD hS hL) (fun h => kf h H locs ls hP hD hS hL)
theorem av_goto (K : av_K p s m args meth c D cl ca A cc nL own Ts) {off : Int} {tgt : Nat} (hd : decode cc pc = .ok (.goto off, 3)) (ht : (pc : Int) + off = (tgt : Int)) (k : av_V p l e R s m args below meth c D cl A ad ca nL Q cells slots tgt L st w) : av_V p l e R s m args below meth c D cl A ad ca nL Q cells slots pc L st w := fun H locs ls hP hD hS hL => lv_goto K.1 K.2.1 hd ht (k H locs ls hP hD hS hL)
theorem av_ldc2 (K : av_K p s m args meth c D cl ca A cc nL own Ts) {index : Nat} {v : Int64} (hc : Cond.constantLong own index v ∈ Ts) (hd : decode cc pc = .ok (.ldc2_w index, 3)) (k : av_V p l e R s m args below meth c D cl A ad ca nL Q cells slots (pc + 3) L (.long v :: st) w) : av_V p l e R s m args below meth c D cl A ad ca nL Q cells slots pc L st w := fun H locs ls hP hD hS hL => lv_ldc2 K.1 K.2.1 K.2.2.2.1 (K.2.2.2.2.1 _ hc) hd (k H locs ls hP hD hS hL)
theorem av_ldc (K : av_K p s m args meth c D cl ca A cc nL own Ts) {index : Nat} {v : Int32} (hc : Cond.constant own index v ∈ Ts) (hd : decode cc pc = .ok (.ldc index, 2)) (k : av_V p l e R s m args below meth c D cl A ad ca nL Q cells slots (pc + 2) L (.int v :: st) w) : av_V p l e R s m args below meth c D cl A ad ca nL Q cells slots pc L st w := fun H locs ls hP hD hS hL => lv_ldc K.1 K.2.1 K.2.2.2.1 (K.2.2.2.2.1 _ hc) hd (k H locs ls hP hD hS hL)
theorem av_eq {pc' : Nat} {st' : List Value} (h1 : pc = pc') (h2 : L = L') (h3 : st = st') (h4 : w = w') (k : av_V p l e R s m args below meth c D cl A ad ca nL Q cells slots pc' L' st' w') : av_V p l e R s m args below meth c D cl A ad ca nL Q cells slots pc L st w := by subst h1; subst h2; subst h3; subst h4; exact k
/-- what an entry of a type's pool says of a field: type number ci, slot kf -/
def av_F (own : String) (Ts : List Cond) (cl : List vw_C) (index ci kf : Nat) : Prop := ∃ (C : String) (T : u_T) (N : Nat), cl[ci]? = some (C, T, N) ∧ kf < N ∧ (∀ w ∈ u_ws C T N, w ∈ Ts) ∧ Cond.fieldLink own index (T kf).1 (T kf).2.1 (T kf).2.2.1 ∈ Ts
def av_FN (own host : String) (Ts Ns : List Cond) (cl : List vw_C) (index ci kf : Nat) : Prop := ∃ (C : String) (T : u_T) (N : Nat), cl[ci]? = some (C, T, N) ∧ kf < N ∧ (∀ w ∈ u_ws C T N, w ∈ Ts) ∧ Cond.fieldLinkNest own index (T kf).1 (T kf).2.1 (T kf).2.2.1 host ∈ Ns
def av_FP (own : String) (Ts : List Cond) (cl : List vw_C) (index ci kf : Nat) (ty : FieldType) : Prop := ∃ (C : String) (T : u_T) (N : Nat) (ty0 : Nat → FieldType), cl[ci]? = some (C, T, N) ∧ kf < N ∧ (∀ w ∈ u_ws C T N, w ∈ Ts) ∧ Cond.fieldLink own index (T kf).1 (T kf).2.1 (T kf).2.2.1 ∈ Ts ∧
  (∀ k, k < N → parseFieldDescriptor (T k).2.2.1 = some (ty0 k)) ∧ (∀ a, a < N → ∀ b, b < N → a ≠ b → (T a).2.1 ≠ (T b).2.1) ∧ (T kf).2.2.2 = false ∧ parseFieldDescriptor (T kf).2.2.1 = some ty
theorem av_getf (K : av_K p s m args meth c D cl ca A cc nL own Ts) {index ci kf q : Nat} (f : av_F own Ts cl index ci kf) {fs : List Value} {v : Value} (hd : decode cc pc = .ok (.getfield index, 3)) (he : w[q]? = some (.inr (ci, fs))) (hv : fs[kf]? = some v) (k : av_V p l e R s m args below meth c D cl A ad ca nL Q cells slots (pc + 3) L (v :: st) w) : av_V p l e R s m args below meth c D cl A ad ca nL Q cells slots pc L (.ref q :: st) w := fun H locs ls hP hD hS hL => by
  obtain ⟨C, T, N, hc, hk, hin, hl⟩ := f
  exact va_get (D := D) (ci := ci) (v := ax_v ad v) (C := C) (T := T) (N := N) K.1 K.2.1 K.2.2.2.2.1 hin K.2.2.2.1 K.2.2.2.2.2.1 hP q (ax_W_at he) hc kf hk (K.2.2.2.2.1 _ hl) (fun _ h9 => h9) (by rw [List.getElem?_map, hv]; rfl) hd (k H locs ls hP hD hS hL)
theorem av_getfN (K : av_K p s m args meth c D cl ca A cc nL own Ts) {Ns : List Cond} (hN : ∀ w ∈ Ns, va_Nw w s) {index ci kf q : Nat} {host : String} (f : av_FN own host Ts Ns cl index ci kf) {fs : List Value} {v : Value} (hd : decode cc pc = .ok (.getfield index, 3)) (he : w[q]? = some (.inr (ci, fs))) (hv : fs[kf]? = some v) (k : av_V p l e R s m args below meth c D cl A ad ca nL Q cells slots (pc + 3) L (v :: st) w) : av_V p l e R s m args below meth c D cl A ad ca nL Q cells slots pc L (.ref q :: st) w := fun H locs ls hP hD hS hL => by
  obtain ⟨C, T, N, hc, hk, hin, hl⟩ := f
  exact va_getN (D := D) (ci := ci) (v := ax_v ad v) (C := C) (T := T) (N := N) K.1 K.2.1 K.2.2.2.2.1 hin K.2.2.2.1 K.2.2.2.2.2.1 hP q (ax_W_at he) hc kf hk (va_Nw.use rfl (hN _ hl)) (fun _ h9 => h9) (by rw [List.getElem?_map, hv]; rfl) hd (k H locs ls hP hD hS hL)
theorem av_putf (K : av_K p s m args meth c D cl ca A cc nL own Ts) {index ci kf q : Nat} {ty : FieldType} (f : av_FP own Ts cl index ci kf ty) {fs : List Value} {x : Int32} (hd : decode cc pc = .ok (.putfield index, 3)) (he : w[q]? = some (.inr (ci, fs))) (hn : narrow ty (.int x) = .int x) (hf : fits ty (.int x) = true) (hlen : kf < fs.length) (hw : w.set q (.inr (ci, fs.set kf (.int x))) = w') (k : av_V p l e R s m args below meth c D cl A ad ca nL Q cells slots (pc + 3) L st w') : av_V p l e R s m args below meth c D cl A ad ca nL Q cells slots pc L (.int x :: .ref q :: st) w := fun H locs ls hP hD hS hL => by
  obtain ⟨C, T, N, ty0, hc, hk, hin, hl, hty, hnm, hfin, hp⟩ := f
  have e1 : (ax_W ad ca w).set q (ad q, .inr (ci, (fs.map (ax_v ad)).set kf (.int x))) = ax_W ad ca w' := by
    rw [← hw, ← ax_W_set]
    show _ = (ax_W ad ca w).set q (ad q, .inr (ci, (fs.set kf (.int x)).map (ax_v ad)))
    rw [List.map_set]
    rfl
  refine va_put (D := D) (ci := ci) (v := .int x) (ty := ty) (C := C) (T := T) (N := N) K.1 K.2.1 K.2.2.2.2.1 hin ty0 hty hnm K.2.2.2.1 K.2.2.2.2.2.1 hP hD hS q (ax_W_at he) hc kf hk (K.2.2.2.2.1 _ hl) (fun _ h9 => h9) hfin hp hn hf (by rw [List.length_map]; exact hlen) hd (fun H1 locs1 hP1 hD1 hS1 => ?_)
  rw [e1] at hP1 hD1
  exact k H1 locs1 ls hP1 hD1 hS1 hL
theorem av_iald (K : av_K p s m args meth c D cl ca A cc nL own Ts) {q n : Nat} {f : Nat → Int32} {i : Int32} (hd : decode cc pc = .ok (.iaload, 1)) (he : w[q]? = some (.inl (0, n, .inl f))) (hin : vp_in i n) (k : av_V p l e R s m args below meth c D cl A ad ca nL Q cells slots (pc + 1) L (.int (f i.toNatClampNeg) :: st) w) : av_V p l e R s m args below meth c D cl A ad ca nL Q cells slots pc L (.int i :: .ref q :: st) w := fun H locs ls hP hD hS hL => va_iald K.1 K.2.1 K.2.2.2.2.2.1 hP q 0 (ax_W_at he) rfl hin hd (k H locs ls hP hD hS hL)
theorem av_lald (K : av_K p s m args meth c D cl ca A cc nL own Ts) {q n : Nat} {f : Nat → Int64} {i : Int32} (hd : decode cc pc = .ok (.laload, 1)) (he : w[q]? = some (.inl (1, n, .inr (.inl f)))) (hin : vp_in i n) (k : av_V p l e R s m args below meth c D cl A ad ca nL Q cells slots (pc + 1) L (.long (f i.toNatClampNeg) :: st) w) : av_V p l e R s m args below meth c D cl A ad ca nL Q cells slots pc L (.int i :: .ref q :: st) w := fun H locs ls hP hD hS hL => va_lald K.1 K.2.1 K.2.2.2.2.2.1 hP q 1 (ax_W_at he) rfl hin hd (k H locs ls hP hD hS hL)
theorem av_zald (K : av_K p s m args meth c D cl ca A cc nL own Ts) {q n : Nat} {f : Nat → Int32} {i : Int32} (hd : decode cc pc = .ok (.baload, 1)) (he : w[q]? = some (.inl (2, n, .inl f))) (hin : vp_in i n) (k : av_V p l e R s m args below meth c D cl A ad ca nL Q cells slots (pc + 1) L (.int (f i.toNatClampNeg) :: st) w) : av_V p l e R s m args below meth c D cl A ad ca nL Q cells slots pc L (.int i :: .ref q :: st) w := fun H locs ls hP hD hS hL => va_zald K.1 K.2.1 K.2.2.2.2.2.1 hP q 2 (ax_W_at he) rfl hin hd (k H locs ls hP hD hS hL)
theorem av_iast (K : av_K p s m args meth c D cl ca A cc nL own Ts) {q n : Nat} {f : Nat → Int32} {i : Int32} {x : Int32} (hd : decode cc pc = .ok (.iastore, 1)) (he : w[q]? = some (.inl (0, n, .inl f))) (hin : vp_in i n) (hw : w.set q (.inl (0, n, .inl (upd f i.toNatClampNeg x))) = w') (k : av_V p l e R s m args below meth c D cl A ad ca nL Q cells slots (pc + 1) L st w') : av_V p l e R s m args below meth c D cl A ad ca nL Q cells slots pc L (.int x :: .int i :: .ref q :: st) w := fun H locs ls hP hD hS hL => by
  have e1 : (ax_W ad ca w).set q (ad q, .inl (ca 0, n, .inl (upd f i.toNatClampNeg x))) = ax_W ad ca w' := by
    rw [← hw, ← ax_W_set]; rfl
  refine va_iast K.1 K.2.1 K.2.2.2.2.2.1 hP hD hS q 0 (ax_W_at he) rfl hin hd (fun H1 locs1 hP1 hD1 hS1 => ?_)
  rw [e1] at hP1 hD1
  exact k H1 locs1 ls hP1 hD1 hS1 hL
theorem av_last (K : av_K p s m args meth c D cl ca A cc nL own Ts) {q n : Nat} {f : Nat → Int64} {i : Int32} {x : Int64} (hd : decode cc pc = .ok (.lastore, 1)) (he : w[q]? = some (.inl (1, n, .inr (.inl f)))) (hin : vp_in i n) (hw : w.set q (.inl (1, n, .inr (.inl (vp_updL f i.toNatClampNeg x)))) = w') (k : av_V p l e R s m args below meth c D cl A ad ca nL Q cells slots (pc + 1) L st w') : av_V p l e R s m args below meth c D cl A ad ca nL Q cells slots pc L (.long x :: .int i :: .ref q :: st) w := fun H locs ls hP hD hS hL => by
  have e1 : (ax_W ad ca w).set q (ad q, .inl (ca 1, n, .inr (.inl (vp_updL f i.toNatClampNeg x)))) = ax_W ad ca w' := by
    rw [← hw, ← ax_W_set]; rfl
  refine va_last K.1 K.2.1 K.2.2.2.2.2.1 hP hD hS q 1 (ax_W_at he) rfl hin hd (fun H1 locs1 hP1 hD1 hS1 => ?_)
  rw [e1] at hP1 hD1
  exact k H1 locs1 ls hP1 hD1 hS1 hL
theorem av_zast (K : av_K p s m args meth c D cl ca A cc nL own Ts) {q n : Nat} {f : Nat → Int32} {i : Int32} {x : Int32} (hd : decode cc pc = .ok (.bastore, 1)) (he : w[q]? = some (.inl (2, n, .inl f))) (hin : vp_in i n) (hw : w.set q (.inl (2, n, .inl (upd f i.toNatClampNeg (vp_nar .boolean x)))) = w') (k : av_V p l e R s m args below meth c D cl A ad ca nL Q cells slots (pc + 1) L st w') : av_V p l e R s m args below meth c D cl A ad ca nL Q cells slots pc L (.int x :: .int i :: .ref q :: st) w := fun H locs ls hP hD hS hL => by
  have e1 : (ax_W ad ca w).set q (ad q, .inl (ca 2, n, .inl (upd f i.toNatClampNeg (vp_nar .boolean x)))) = ax_W ad ca w' := by
    rw [← hw, ← ax_W_set]; rfl
  refine va_zast K.1 K.2.1 K.2.2.2.2.2.1 hP hD hS q 2 (ax_W_at he) rfl hin hd (fun H1 locs1 hP1 hD1 hS1 => ?_)
  rw [e1] at hP1 hD1
  exact k H1 locs1 ls hP1 hD1 hS1 hL
theorem av_aald (K : av_K p s m args meth c D cl ca A cc nL own Ts) {q n j : Nat} {f : Nat → Option Nat} {i : Int32} (hd : decode cc pc = .ok (.aaload, 1)) (he : w[q]? = some (.inl (3, n, .inr (.inr (.inr (.inr f)))))) (hin : vp_in i n) (hj : f i.toNatClampNeg = some j) (k : av_V p l e R s m args below meth c D cl A ad ca nL Q cells slots (pc + 1) L (.ref j :: st) w) : av_V p l e R s m args below meth c D cl A ad ca nL Q cells slots pc L (.int i :: .ref q :: st) w := fun H locs ls hP hD hS hL => by
  have hlt : i.toNatClampNeg < n := Nat.not_le.mp fun q => hin (Or.inr q)
  have hc := hP q _ (ax_W_at he)
  refine W.aald (v := .ref (ad j)) (ty := .array .long) K.1 K.2.1 hc ((K.2.2.2.2.2.1.2 3 _ rfl).1 n (fun j => va_rf ((f j).map ad))) rfl (fun q => by cases q) (by show ¬ (i < 0 ∨ (arrV _ _ _).slots.size ≤ _); rw [arrV_size]; exact hin) ?_ rfl rfl hd (k H locs ls hP hD hS hL)
  show (arrV (ca 3) n (fun j => va_rf ((f j).map ad))).slots[i.toNatClampNeg]? = _
  rw [arrV_read _ _ hlt, hj]
  rfl
theorem av_iushr (K : av_K p s m args meth c D cl ca A cc nL own Ts) {x y : Int32} (hd : decode cc pc = .ok (.iushr, 1)) (k : av_V p l e R s m args below meth c D cl A ad ca nL Q cells slots (pc + 1) L (.int (x.toUInt32 >>> (y.toUInt32 &&& Int32.toUInt32 31)).toInt32 :: st) w) : av_V p l e R s m args below meth c D cl A ad ca nL Q cells slots pc L (.int y :: .int x :: st) w := fun H locs ls hP hD hS hL => lv_iushr K.1 K.2.1 hd rfl (k H locs ls hP hD hS hL)
theorem av_max (K : av_K p s m args meth c D cl ca A cc nL own Ts) {index : Nat} {x y : Int32} (hl : Cond.methodLink own index Lib.Math.max.name ∈ Ts) (hs : Cond.static Lib.Math.max.name ∈ Ts) (hi : Cond.initialized "java/lang/Math" ∈ Ts) (hco : Cond.code Lib.Math.max.name Lib.Math.max.code 2 (some .int) ∈ Ts) (hf : 1 ≤ R.frames) (hlo : (st.map Value.category).sum + 13 ≤ R.locals) (h1 : cells ≤ R.cells) (h2 : slots ≤ R.slots) (hd : decode cc pc = .ok (.invokestatic index, 3)) (k : av_V p l e R s m args below meth c D cl A ad ca nL Q cells slots (pc + 3) L (.int (if x < y then y else x) :: st) w) : av_V p l e R s m args below meth c D cl A ad ca nL Q cells slots pc L (.int y :: .int x :: st) w := fun H locs ls hP hD hS hL => va_mmax K.1 K.2.1 (K.2.2.1.trans hL.1.symm) K.2.2.2.1 (K.2.2.2.2.1 _ hl) (K.2.2.2.2.1 _ hs) (K.2.2.2.2.1 _ hi) (K.2.2.2.2.1 _ hco) hf (by rw [List.map_map]; simpa [Function.comp_def, ax_v_cat] using hlo) h1 h2 hd (k H locs ls hP hD hS hL)
end AV
