/-! making cells: the next place of the world is the next address, as long as every cell made is in the world -/
theorem ax_W_of {ad ca : Nat → Nat} {w : List va_E} {k : Nat} {x : Nat × va_E} (h : (ax_W ad ca w)[k]? = some x) : ∃ c, w[k]? = some c ∧ x = (ad k, ax_E ad ca c) := by
  rw [ax_W_get] at h
  cases hw : w[k]? with
  | none => rw [hw] at h; cases h
  | some c => rw [hw] at h; cases h; exact ⟨c, rfl, rfl⟩
theorem av_push {D : va_G} {cl : List vw_C} {A : Nat → Prop} {ad ca : Nat → Nat} {w v : List va_E} {H H1 : Heap} (hP : va_P D cl (ax_W ad ca w) H) (hD : va_D A (ax_W ad ca w)) (hA : ∀ q, H.size ≤ q → A q) (hold : ∀ q, q < H.size → H1[q]? = H[q]?) (hnew : ∀ k c, v[k]? = some c → va_at D cl (H.size + k, ax_E ad ca c) H1) (had : ∀ k, ad (w.length + k) = H.size + k) : va_P D cl (ax_W ad ca (w ++ v)) H1 ∧ va_D A (ax_W ad ca (w ++ v)) := by
  have key : ∀ (k : Nat) (x : Nat × va_E), (ax_W ad ca (w ++ v))[k]? = some x → (k < w.length ∧ (ax_W ad ca w)[k]? = some x ∧ x.1 < H.size) ∨ (∃ j c, k = w.length + j ∧ v[j]? = some c ∧ x = (H.size + j, ax_E ad ca c)) := by
    intro k x hx
    obtain ⟨c, hc, rfl⟩ := ax_W_of hx
    by_cases hl : k < w.length
    · rw [List.getElem?_append_left hl] at hc
      exact Or.inl ⟨hl, ax_W_at hc, (hP k _ (ax_W_at hc)).lt⟩
    · rw [List.getElem?_append_right (by omega)] at hc
      refine Or.inr ⟨k - w.length, c, by omega, hc, ?_⟩
      have e := had (k - w.length)
      rw [show w.length + (k - w.length) = k by omega] at e
      rw [e]
  refine ⟨fun k x hx => ?_, fun i j x y hx hy hxy => ?_, fun k x hx => ?_⟩
  · rcases key k x hx with ⟨-, h1, h2⟩ | ⟨j, c, -, hc, rfl⟩
    · exact (hP k x h1).kept (hold x.1 h2)
    · exact hnew j c hc
  · rcases key i x hx with ⟨-, h1, h2⟩ | ⟨i', c, e1, hc, rfl⟩ <;> rcases key j y hy with ⟨-, g1, g2⟩ | ⟨j', d, e2, hd, rfl⟩
    · exact hD.1 i j x y h1 g1 hxy
    · dsimp only at hxy; omega
    · dsimp only at hxy; omega
    · dsimp only at hxy; omega
  · rcases key k x hx with ⟨-, h1, h2⟩ | ⟨j, c, -, hc, rfl⟩
    · exact hD.2 k x h1
    · exact hA _ (Nat.le_add_right _ _)
def hp_na (w : List va_E) (k n : Nat) : Option (List va_E) := match k with
  | 0 => some (w ++ [.inl (0, n, .inl (fun _ => 0))])
  | 1 => some (w ++ [.inl (1, n, .inr (.inl (fun _ => 0)))])
  | 2 => some (w ++ [.inl (2, n, .inl (fun _ => 0))])
  | _ => none
def hp_nw (w : List va_E) (ci : Nat) (fs : List Value) : Option (List va_E) := some (w ++ [.inr (ci, fs)])
def hp_pr (w : List va_E) (q ci k x : Nat) : Option (List va_E) := match w[q]? with
  | some (.inr (c, fs)) => if c = ci ∧ k < fs.length then some (w.set q (.inr (c, fs.set k (.ref x)))) else none
  | _ => none
def hp_ng (w : List va_E) (n k : Nat) : Option (List va_E) := some (w ++ (.inl (3, n, .inr (.inr (.inr (.inr (fun i => if i < n then some (w.length + 1 + i) else none))))) :: List.replicate n (.inl (1, k, .inr (.inl (fun _ => 0))))))
theorem hp_pr_of {w w' : List va_E} {q ci k x : Nat} (h : hp_pr w q ci k x = some w') : ∃ fs, w[q]? = some (.inr (ci, fs)) ∧ k < fs.length ∧ w.set q (.inr (ci, fs.set k (.ref x))) = w' := by
  unfold hp_pr at h
  split at h
  · rename_i c fs hq
    split at h
    · rename_i hc
      obtain ⟨hc, hk⟩ := hc
      subst hc
      exact ⟨fs, hq, hk, Option.some.inj h⟩
    · cases h
  · cases h
theorem hp_pr_len {w w' : List va_E} {q ci k x : Nat} (h : hp_pr w q ci k x = some w') : w'.length = w.length := by
  obtain ⟨fs, -, -, rfl⟩ := hp_pr_of h
  exact List.length_set
theorem hp_pi_len {w w' : List va_E} {q ci k : Nat} {x : Int32} (h : hp_pi w q ci k x = some w') : w'.length = w.length := by
  obtain ⟨fs, -, -, rfl⟩ := hp_pi_of h
  exact List.length_set
theorem hp_pz_len {w w' : List va_E} {q ci k : Nat} {x : Int32} (h : hp_pz w q ci k x = some w') : w'.length = w.length := by
  unfold hp_pz at h
  split at h
  · exact hp_pi_len h
  · cases h
section AL
variable {p : Program} {l : Launch} {e : Env} {R : Room} {s : State} {m : MethodId} {args : Array Value} {below : List Frame} {meth : Method} {c : Code} {cells slots : Nat} {Q : State → Prop}
variable {D : va_G} {cl : List vw_C} {ca : Nat → Nat} {A : Nat → Prop} {ad : Nat → Nat} {cc : ByteArray} {nL : Nat} {own : String} {Ts : List Cond}
variable {pc b n0 : Nat} {L L' : List (Option Value)} {st : List Value} {w w' : List va_E}
theorem av_sz {H : Heap} {T : State} {locs : List Loc} (hs0 : s.heap.size = b + n0) (he : s.heap.size + cells = b + w.length) (had : ∀ k, n0 ≤ k → ad k = b + k) (hP : va_P D cl (ax_W ad ca w) H) (hS : va_S A s.heap H locs) (hT : T.heap = H) (X : Stand p l e R s m args below meth c T locs cells slots) : H.size = b + w.length := by
  have h1 := X.heapSize
  rw [hT] at h1
  by_cases hc : cells = 0
  · have := hS.1
    omega
  · have hlt : w.length - 1 < w.length := by omega
    have h2 := (hP (w.length - 1) _ (ax_W_at (List.getElem?_eq_getElem hlt))).lt
    have h3 := had (w.length - 1) (by omega)
    dsimp only at h2
    omega
theorem av_na (K : av_K p s m args meth c D cl ca A cc nL own Ts) (hs0 : s.heap.size = b + n0) (he : s.heap.size + cells = b + w.length) (had : ∀ k, n0 ≤ k → ad k = b + k) {atype : ArrayType} {ty : FieldType} {k N : Nat} {x : Int32} {z : vp_A} (harr : Cond.arrayClass ty ∈ Ts) (hty : newarray.typeOf atype = ty) (ht : (ax_ty ca)[k]? = some (ca k, ty)) (hra : va_RA s (ca k) ty → s.vm.findClass ("[" ++ ty.toString) = some (ca k)) (hz : ∀ cA : ClassId, vp_cell cA (ax_A ad z) = arrV cA N (fun _ => defaultValue ty)) (hx : ¬ x < 0 ∧ x.toNatClampNeg = N) (hby : N * componentBytes ty ≤ 536870912) (hRc : cells + 1 ≤ R.cells) (hRs : slots + N ≤ R.slots) (hd : decode cc pc = .ok (.newarray atype, 2)) (hw : w ++ [.inl (k, z)] = w')
    (kk : av_V p l e R s m args below meth c D cl A ad ca nL Q (cells + 1) (slots + N) (pc + 2) L (.ref w.length :: st) w') : av_V p l e R s m args below meth c D cl A ad ca nL Q cells slots pc L (.int x :: st) w := by
  intro H locs ls hP hD hS hL T hT X
  have hsz := av_sz hs0 he had hP hS hT X
  subst hty
  subst hw
  refine va_newaK K.1 K.2.1 (K.2.2.2.2.1 _ harr) (g := F0 m pc ls ((Value.int x :: st).map (ax_v ad))) rfl hd rfl hx.1 hx.2 hby hRc hRs rfl (fun H1 cA e1 z1 o1 hAr hNm => ?_) T hT X
  have hca : cA = ca k := Option.some.inj (hNm.symm.trans (hra (K.2.2.2.2.2.1.2 k _ ht).2))
  subst hca
  obtain ⟨hP1, hD1⟩ := av_push (v := [.inl (k, z)]) (H1 := H1) hP hD (fun q h => K.2.2.2.2.2.2.1 q (Nat.le_trans hS.1 h)) o1 (fun j c hj => by
    have h0 : j < 1 := (List.getElem?_eq_some_iff.mp hj).1
    rw [show j = 0 by omega] at hj ⊢
    cases hj
    show H1[H.size + 0]? = some (vp_cell (ca k) (ax_A ad z))
    rw [Nat.add_zero, hz]
    exact e1) (fun j => by rw [hsz]; have := had (w.length + j) (by have := K.1; omega); omega)
  have hr : H.size = ad w.length := by rw [hsz]; exact (had w.length (by omega)).symm
  rw [hr]
  exact kk H1 locs ls hP1 hD1 ⟨Nat.le_trans hS.1 (by omega), fun q g1 g2 => (o1 q (Nat.lt_of_lt_of_le g1 hS.1)).trans (hS.2.1 q g1 g2), hS.2.2⟩ hL
theorem av_nw (K : av_K p s m args meth c D cl ca A cc nL own Ts) (hs0 : s.heap.size = b + n0) (he : s.heap.size + cells = b + w.length) (had : ∀ k, n0 ≤ k → ad k = b + k) {C : String} {TT : u_T} {N ci index : Nat} {fs : List Value} (hin : ∀ w ∈ u_ws C TT N, w ∈ Ts) (ty : Nat → FieldType) (hty : ∀ k, k < N → parseFieldDescriptor (TT k).2.2.1 = some (ty k)) (hcl : Cond.classLink own index C ∈ Ts) (hinst : Cond.instantiable C N ∈ Ts) (hini : Cond.initialized C ∈ Ts) (hc : cl[ci]? = some (C, TT, N)) (hfs : ∀ j, j < N → defaultValue (ty j) = vp_V (fs.map (ax_v ad)) j) (hRc : cells + 1 ≤ R.cells) (hRs : slots + N ≤ R.slots) (hd : decode cc pc = .ok (.new index, 3)) (hw : w ++ [.inr (ci, fs)] = w')
    (kk : av_V p l e R s m args below meth c D cl A ad ca nL Q (cells + 1) (slots + N) (pc + 3) L (.ref w.length :: st) w') : av_V p l e R s m args below meth c D cl A ad ca nL Q cells slots pc L st w := by
  intro H locs ls hP hD hS hL T hT X
  have hsz := av_sz hs0 he had hP hS hT X
  subst hw
  have hKn := K.2.2.2.2.2.1.1 ci _ hc
  refine W.newcK K.1 K.2.1 K.2.2.2.1 (K.2.2.2.2.1 _ hcl) (K.2.2.2.2.1 _ hinst) (K.2.2.2.2.1 _ hini) (g := F0 m pc ls (st.map (ax_v ad))) rfl hd hRc hRs hKn.2.1 rfl (fun H1 kC hkC e1 z1 o1 => ?_) T hT X
  obtain ⟨hP1, hD1⟩ := av_push (v := [.inr (ci, fs)]) (H1 := H1) hP hD (fun q h => K.2.2.2.2.2.2.1 q (Nat.le_trans hS.1 h)) o1 (fun j c hj => by
    have h0 : j < 1 := (List.getElem?_eq_some_iff.mp hj).1
    rw [show j = 0 by omega] at hj ⊢
    cases hj
    rw [Nat.add_zero]
    exact ⟨_, hc, (u_born ty K.2.2.2.2.1 hin hKn hkC e1 hty).to hfs⟩) (fun j => by rw [hsz]; have := had (w.length + j) (by omega); omega)
  have hr : H.size = ad w.length := by rw [hsz]; exact (had w.length (by omega)).symm
  rw [hr]
  exact kk H1 locs ls hP1 hD1 ⟨Nat.le_trans hS.1 (by omega), fun q g1 g2 => (o1 q (Nat.lt_of_lt_of_le g1 hS.1)).trans (hS.2.1 q g1 g2), hS.2.2⟩ hL
theorem av_pr (K : av_K p s m args meth c D cl ca A cc nL own Ts) (hin2 : meth.name = "<init>") {C : String} {TT : u_T} {N ci kf index q x : Nat} {ty : FieldType} (hin : ∀ w ∈ u_ws C TT N, w ∈ Ts) (ty0 : Nat → FieldType) (hty : ∀ k, k < N → parseFieldDescriptor (TT k).2.2.1 = some (ty0 k)) (hnm : ∀ a, a < N → ∀ b, b < N → a ≠ b → (TT a).2.1 ≠ (TT b).2.1) (hc : cl[ci]? = some (C, TT, N)) (hk : kf < N) (hlink : Cond.fieldLink own index (TT kf).1 (TT kf).2.1 (TT kf).2.2.1 ∈ Ts) (hfin : (TT kf).2.2.2 = true) (hdecl : (TT kf).1 = own) (hp : parseFieldDescriptor (TT kf).2.2.1 = some ty) (hn : ∀ a : Nat, narrow ty (.ref a) = .ref a) (hf : ∀ a : Nat, fits ty (.ref a) = true) (hd : decode cc pc = .ok (.putfield index, 3)) (h : hp_pr w q ci kf x = some w')
    (k : av_V p l e R s m args below meth c D cl A ad ca nL Q cells slots (pc + 3) L st w') : av_V p l e R s m args below meth c D cl A ad ca nL Q cells slots pc L (.ref x :: .ref q :: st) w := fun H locs ls hP hD hS hL => by
  obtain ⟨fs, he, hlen, hw⟩ := hp_pr_of h
  have e1 : (ax_W ad ca w).set q (ad q, .inr (ci, (fs.map (ax_v ad)).set kf (.ref (ad x)))) = ax_W ad ca w' := by
    rw [← hw, ← ax_W_set]
    show _ = (ax_W ad ca w).set q (ad q, .inr (ci, (fs.set kf (.ref x)).map (ax_v ad)))
    rw [List.map_set]
    rfl
  refine va_putF (D := D) (ci := ci) (v := .ref (ad x)) (ty := ty) (C := C) (T := TT) (N := N) K.1 K.2.1 K.2.2.2.2.1 hin ty0 hty hnm K.2.2.2.1 K.2.2.2.2.2.1 hP hD hS q (ax_W_at he) hc kf hk (K.2.2.2.2.1 _ hlink) (fun _ h9 => h9) hfin hin2 hdecl hp (hn _) (hf _) (by rw [List.length_map]; exact hlen) hd (fun H1 locs1 hP1 hD1 hS1 => ?_)
  rw [e1] at hP1 hD1
  exact k H1 locs1 ls hP1 hD1 hS1 hL
theorem av_oi (K : av_K p s m args meth c D cl ca A cc nL own Ts) {index : Nat} {v : Nat} (hl : Cond.methodLink own index objectInit ∈ Ts) (hi : Cond.instanceMethod objectInit ∈ Ts) (hc : Cond.code objectInit ⟨#[0xb1]⟩ 1 none ∈ Ts) (hRf : 1 ≤ R.frames) (hRl : (st.map Value.category).sum + 12 ≤ R.locals) (hd : decode cc pc = .ok (.invokespecial index, 3)) (k : av_V p l e R s m args below meth c D cl A ad ca nL Q cells slots (pc + 3) L st w) : av_V p l e R s m args below meth c D cl A ad ca nL Q cells slots pc L (.ref v :: st) w := fun H locs ls hP hD hS hL =>
  W.objInit K.1 K.2.1 K.2.2.2.1 (K.2.2.2.2.1 _ hl) (K.2.2.2.2.1 _ hi) (K.2.2.2.2.1 _ hc) rfl (by rw [K.2.2.1]; exact hL.1) rfl hd hRf (by rw [List.map_map]; simpa [Function.comp_def, ax_v_cat] using hRl) (k H locs ls hP hD hS hL)
end AL
