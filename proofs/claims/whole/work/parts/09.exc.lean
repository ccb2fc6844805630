/-! methods that may throw: the world stays, the name of a type comes out -/
def EXN : List String := ["java/lang/IllegalArgumentException", "java/lang/IllegalStateException", "java/lang/UnsupportedOperationException", "java/lang/IndexOutOfBoundsException"]
def EXU : List String := ["java/lang/RuntimeException", "java/lang/Exception"]
def STR : List (Nat × String) := [(195, "no such chance"), (71, "no room for another event"), (197, "no such event"), (92, "no such way to hold"), (98, "no such kind"), (100, "no such k for the kind"), (103, "no room for another gate"), (200, "no such gate"), (118, "no such child"), (127, "the gate has it, or no room"), (134, "the gate would be below itself"), (202, "there is no top"), (153, "no such decimal"), (167, "no such number of events"), (211, "too many prime terms"), (175, "neither on nor off"), (180, "no such prime term")]
def DCL : List MethodName := [⟨"java/lang/RuntimeException", "<init>", "(Ljava/lang/String;)V"⟩, ⟨"java/lang/Exception", "<init>", "(Ljava/lang/String;)V"⟩, ⟨"java/lang/Throwable", "<init>", "(Ljava/lang/String;)V"⟩]
def av_X (A : Nat → Prop) (U : State) (H : Heap) : Prop := ((∀ E ∈ EXN, va_Nw (.castable E E) U) ∧ ∀ y ∈ DCL, va_Nw (.declares y) U) ∧ (∀ q ∈ STR, ∃ sa, vk_R "FaultTreeDesk" q.1 q.2 sa U) ∧ vx_Zq Bundle.tN "UNASSIGNED_STACK" Bundle.steD A U H ∧ vx_Zq Bundle.tN "SUPPRESSED_SENTINEL" Bundle.listD A U H
theorem av_X.to {A B : Nat → Prop} {s U : State} {H H1 : Heap} (h : av_X A s H) (hW : s.WarmedH U.vm) (hq : ∀ a : Nat, a < H.size → ¬ A a → H1[a]? = H[a]?) (hAB : ∀ q, B q → A q) : av_X B U H1 :=
  ⟨⟨fun E hE => va_Nw.warmC hW (h.1.1 E hE), fun y hy => va_Nw.warmD hW (h.1.2 y hy)⟩, fun q hq => (h.2.1 q hq).imp fun sa hs => hs.warm hW, ((vx_Zq.moved hW.alike h.2.2.1).kept hq).narrow hAB, ((vx_Zq.moved hW.alike h.2.2.2).kept hq).narrow hAB⟩
theorem av_X.calling {A : Nat → Prop} {U : State} {g : JFrame} {mk : MethodId} {a : Array Value} (h : av_X A U U.heap) : av_X A (U.calling g mk a) (U.calling g mk a).heap :=
  ⟨⟨fun E hE => va_Nw.same (u := U) (U := U.calling g mk a) rfl rfl (h.1.1 E hE), fun y hy => va_Nw.same (u := U) (U := U.calling g mk a) rfl rfl (h.1.2 y hy)⟩, fun q hq => (h.2.1 q hq).imp fun sa hs => vk_R.same (u := U) (U := U.calling g mk a) rfl hs, vx_Zq.moved (u := U) (U := U.calling g mk a) (Vm.Alike.refl U.vm) h.2.2.1, vx_Zq.moved (u := U) (U := U.calling g mk a) (Vm.Alike.refl U.vm) h.2.2.2⟩
def av_PreX (D : va_G) (cl : List vw_C) (ca : Nat → Nat) (Ns : List Cond) (tab : Nat → Int64) (ad : Nat → Nat) (w : List va_E) (sz : Nat) (U : State) : Prop := av_Pre D cl ca Ns tab ad w sz U ∧ av_X (va_A (ax_W ad ca w) sz) U U.heap
theorem av_blindX {D : va_G} {cl : List vw_C} {ca : Nat → Nat} {Ns : List Cond} {tab : Nat → Int64} {ad : Nat → Nat} {w : List va_E} {sz : Nat} {av : List Value} : FrameBlind (va_Pc av (av_PreX D cl ca Ns tab ad w sz)) :=
  fun a U g mk q => ⟨q.1, (av_blind a U g mk ⟨q.1, q.2.1⟩).2, q.2.2.calling⟩
def av_BX (D : va_G) (cl : List vw_C) (ad ca : Nat → Nat) (A : Nat → Prop) (xp : String → List va_E → Prop) : String → State → State → Prop := vx_X (fun _ : List va_E => True) (fun E u t => xp E u ∧ av_B D cl ad ca A u t) A
def av_Xi (l : Launch) (D : va_G) (cl : List vw_C) (ca : Nat → Nat) (Ns : List Cond) (tab : Nat → Int64) (y : MethodName) (ws : List Cond) (rm : Room) (mc ms : Nat) (as : List Value) (w : List va_E) (post : Int32 → List va_E → Prop) (xp : String → List va_E → Prop) : Prop :=
  ∀ (ad : Nat → Nat) (sz : Nat), vx_Met l y ws rm (va_Pc (as.map (ax_v ad)) (av_PreX D cl ca Ns tab ad w sz)) (va_Qi post (av_B D cl ad ca (va_A (ax_W ad ca w) sz)) (va_A (ax_W ad ca w) sz)) (av_BX D cl ad ca (va_A (ax_W ad ca w) sz) xp) mc ms (va_A (ax_W ad ca w) sz)
def av_Xl (l : Launch) (D : va_G) (cl : List vw_C) (ca : Nat → Nat) (Ns : List Cond) (tab : Nat → Int64) (y : MethodName) (ws : List Cond) (rm : Room) (mc ms : Nat) (as : List Value) (w : List va_E) (post : Int64 → List va_E → Prop) (xp : String → List va_E → Prop) : Prop :=
  ∀ (ad : Nat → Nat) (sz : Nat), vx_Met l y ws rm (va_Pc (as.map (ax_v ad)) (av_PreX D cl ca Ns tab ad w sz)) (va_Ql post (av_B D cl ad ca (va_A (ax_W ad ca w) sz)) (va_A (ax_W ad ca w) sz)) (av_BX D cl ad ca (va_A (ax_W ad ca w) sz) xp) mc ms (va_A (ax_W ad ca w) sz)
def av_Xv (l : Launch) (D : va_G) (cl : List vw_C) (ca : Nat → Nat) (Ns : List Cond) (tab : Nat → Int64) (y : MethodName) (ws : List Cond) (rm : Room) (mc ms : Nat) (as : List Value) (w : List va_E) (post : List va_E → Prop) (xp : String → List va_E → Prop) : Prop :=
  ∀ (ad : Nat → Nat) (sz : Nat), vx_Met l y ws rm (va_Pc (as.map (ax_v ad)) (av_PreX D cl ca Ns tab ad w sz)) (va_Qv post (av_B D cl ad ca (va_A (ax_W ad ca w) sz)) (va_A (ax_W ad ca w) sz)) (av_BX D cl ad ca (va_A (ax_W ad ca w) sz) xp) mc ms (va_A (ax_W ad ca w) sz)
/-- calls of what may throw, in the pure text -/
def hx_bd {α β : Type} (o : Option ((String ⊕ α) × List va_E)) (k : α → List va_E → Option ((String ⊕ β) × List va_E)) : Option ((String ⊕ β) × List va_E) := o.bind fun r => match r with
  | (.inl E, u) => some (.inl E, u)
  | (.inr v, u) => k v u
theorem hx_of {α β : Type} {o : Option ((String ⊕ α) × List va_E)} {k : α → List va_E → Option ((String ⊕ β) × List va_E)} {R : (String ⊕ β) × List va_E} (h : hx_bd o k = some R) : ∃ r, o = some r ∧ (∀ E u, r = (.inl E, u) → R = (.inl E, u)) ∧ ∀ v u, r = (.inr v, u) → k v u = some R := by
  unfold hx_bd at h
  cases o with
  | none => cases h
  | some r =>
    refine ⟨r, rfl, fun E u hr => ?_, fun v u hr => ?_⟩
    · subst hr; exact (Option.some.inj h).symm
    · subst hr; exact h
section AXC
variable {l : Launch} {D : va_G} {cl : List vw_C} {ca : Nat → Nat} {Ns : List Cond} {tab : Nat → Int64}
theorem av_inXI {y : MethodName} {ws ws' : List Cond} {rm : Room} {mc ms : Nat} {as : List Value} {w : List va_E} {post : Int32 → List va_E → Prop} {xp : String → List va_E → Prop} {cc : ByteArray} {nL : Nat} {ty : FieldType} (hy : plainName y.cls = true) (hw : ws = Cond.code y cc nL (some ty) :: ws') (hn : (ax_ar as).length ≤ nL)
    (h : ∀ (p : Program) (e : Env) (s : State) (m : MethodId) (args : Array Value) (below : List Frame) (meth : Method) (c : Code) (A : Nat → Prop) (ad : Nat → Nat), av_K p s m args meth c D cl ca A cc nL y.cls ws' → av_G Ns tab A s s.heap → av_X A s s.heap → (∀ x ∈ c.exceptionTable.toList, False) → meth.sig.returnType = some ty →
      av_V p l e rm s m args below meth c D cl A ad ca nL (vx_MQ below (va_Qi post (av_B D cl ad ca A) A) (av_BX D cl ad ca A xp) args s mc ms A) 0 0 0 (ax_en nL as) [] w) : av_Xi l D cl ca Ns tab y ws rm mc ms as w post xp := by
  intro ad sz
  refine vx_ofW (cc := cc) (maxL := nL) (ret := some ty) hy hw ?_
  intro p e s m args below meth c s₁ B hml hx hv
  obtain ⟨rfl, ⟨hsz, hP, hK, hD0, hG⟩, hX⟩ := hv
  subst hsz
  have hts := atoms_spec (ws := ws) B.pre
  have hD := hD0.self (sz := s.heap.size)
  generalize hAe : va_A (ax_W ad ca w) s.heap.size = A at hD hG hX ⊢
  have hA : ∀ q : Nat, s.heap.size ≤ q → A q := fun q h => by rw [← hAe]; exact Or.inr h
  rw [lg_entry_eq]
  exact h p e s m _ below meth c A ad ⟨B.exec, B.bytes, hml, findClass_of_methodNamed B.named, fun w h9 => hts w (by rw [hw]; exact List.mem_cons_of_mem _ h9), hK, hA, B.notSynchronized⟩ hG hX hx B.returns s.heap [] _ hP hD va_S.rf (ax_L.en ad as hn)
theorem av_inXL {y : MethodName} {ws ws' : List Cond} {rm : Room} {mc ms : Nat} {as : List Value} {w : List va_E} {post : Int64 → List va_E → Prop} {xp : String → List va_E → Prop} {cc : ByteArray} {nL : Nat} {ty : FieldType} (hy : plainName y.cls = true) (hw : ws = Cond.code y cc nL (some ty) :: ws') (hn : (ax_ar as).length ≤ nL)
    (h : ∀ (p : Program) (e : Env) (s : State) (m : MethodId) (args : Array Value) (below : List Frame) (meth : Method) (c : Code) (A : Nat → Prop) (ad : Nat → Nat), av_K p s m args meth c D cl ca A cc nL y.cls ws' → av_G Ns tab A s s.heap → av_X A s s.heap → (∀ x ∈ c.exceptionTable.toList, False) → meth.sig.returnType = some ty →
      av_V p l e rm s m args below meth c D cl A ad ca nL (vx_MQ below (va_Ql post (av_B D cl ad ca A) A) (av_BX D cl ad ca A xp) args s mc ms A) 0 0 0 (ax_en nL as) [] w) : av_Xl l D cl ca Ns tab y ws rm mc ms as w post xp := by
  intro ad sz
  refine vx_ofW (cc := cc) (maxL := nL) (ret := some ty) hy hw ?_
  intro p e s m args below meth c s₁ B hml hx hv
  obtain ⟨rfl, ⟨hsz, hP, hK, hD0, hG⟩, hX⟩ := hv
  subst hsz
  have hts := atoms_spec (ws := ws) B.pre
  have hD := hD0.self (sz := s.heap.size)
  generalize hAe : va_A (ax_W ad ca w) s.heap.size = A at hD hG hX ⊢
  have hA : ∀ q : Nat, s.heap.size ≤ q → A q := fun q h => by rw [← hAe]; exact Or.inr h
  rw [lg_entry_eq]
  exact h p e s m _ below meth c A ad ⟨B.exec, B.bytes, hml, findClass_of_methodNamed B.named, fun w h9 => hts w (by rw [hw]; exact List.mem_cons_of_mem _ h9), hK, hA, B.notSynchronized⟩ hG hX hx B.returns s.heap [] _ hP hD va_S.rf (ax_L.en ad as hn)
theorem av_inXV {y : MethodName} {ws ws' : List Cond} {rm : Room} {mc ms : Nat} {as : List Value} {w : List va_E} {post : List va_E → Prop} {xp : String → List va_E → Prop} {cc : ByteArray} {nL : Nat} (hy : plainName y.cls = true) (hw : ws = Cond.code y cc nL none :: ws') (hn : (ax_ar as).length ≤ nL)
    (h : ∀ (p : Program) (e : Env) (s : State) (m : MethodId) (args : Array Value) (below : List Frame) (meth : Method) (c : Code) (A : Nat → Prop) (ad : Nat → Nat), av_K p s m args meth c D cl ca A cc nL y.cls ws' → av_G Ns tab A s s.heap → av_X A s s.heap → (∀ x ∈ c.exceptionTable.toList, False) → meth.sig.returnType = none →
      av_V p l e rm s m args below meth c D cl A ad ca nL (vx_MQ below (va_Qv post (av_B D cl ad ca A) A) (av_BX D cl ad ca A xp) args s mc ms A) 0 0 0 (ax_en nL as) [] w) : av_Xv l D cl ca Ns tab y ws rm mc ms as w post xp := by
  intro ad sz
  refine vx_ofW (cc := cc) (maxL := nL) (ret := none) hy hw ?_
  intro p e s m args below meth c s₁ B hml hx hv
  obtain ⟨rfl, ⟨hsz, hP, hK, hD0, hG⟩, hX⟩ := hv
  subst hsz
  have hts := atoms_spec (ws := ws) B.pre
  have hD := hD0.self (sz := s.heap.size)
  generalize hAe : va_A (ax_W ad ca w) s.heap.size = A at hD hG hX ⊢
  have hA : ∀ q : Nat, s.heap.size ≤ q → A q := fun q h => by rw [← hAe]; exact Or.inr h
  rw [lg_entry_eq]
  exact h p e s m _ below meth c A ad ⟨B.exec, B.bytes, hml, findClass_of_methodNamed B.named, fun w h9 => hts w (by rw [hw]; exact List.mem_cons_of_mem _ h9), hK, hA, B.notSynchronized⟩ hG hX hx B.returns s.heap [] _ hP hD va_S.rf (ax_L.en ad as hn)
variable {p : Program} {e : Env} {R : Room} {s : State} {m : MethodId} {args : Array Value} {below : List Frame} {meth : Method} {c : Code} {cells slots mc ms : Nat} {Q : State → Prop}
variable {A : Nat → Prop} {ad : Nat → Nat} {cc : ByteArray} {nL : Nat} {own : String} {Ts : List Cond}
variable {pc : Nat} {L L' : List (Option Value)} {st st0 : List Value} {w w' : List va_E}
/-- at most so many cells have come -/
theorem av_wd {k n : Nat} (h1 : cells ≤ k) (h2 : slots ≤ n) (kk : av_V p l e R s m args below meth c D cl A ad ca nL Q k n pc L st w) : av_V p l e R s m args below meth c D cl A ad ca nL Q cells slots pc L st w :=
  fun H locs ls hP hD hS hL => W.widen h1 h2 (kk H locs ls hP hD hS hL)
theorem av_xret {Qc : Array Value → State → Outcome → State → Prop} {XC : String → State → State → Prop} (kk : av_V p l e R s m args below meth c D cl A ad ca nL (MQ below Qc args s mc ms A) mc ms pc L st w) (h1 : cells ≤ mc) (h2 : slots ≤ ms) : av_V p l e R s m args below meth c D cl A ad ca nL (vx_MQ below Qc XC args s mc ms A) cells slots pc L st w :=
  fun H locs ls hP hD hS hL => W.widen h1 h2 (vx_ret (kk H locs ls hP hD hS hL))
theorem av_pout (K : av_K p s m args meth c D cl ca A cc nL own Ts) (hx : ∀ x ∈ c.exceptionTable.toList, False) {Qc : Array Value → State → Outcome → State → Prop} {xp : String → List va_E → Prop} {E : String} {ce : Cell} {q9 : Addr} {H : Heap} {locs : List Loc} {ls : Array Slot} {rest : List Value} (hP : va_P D cl (ax_W ad ca w) H) (hD : va_D A (ax_W ad ca w)) (hS : va_S A s.heap H locs) (hce : H[q9]? = some ce) (hv : ce.vm = .none) (hcl : s.vm.findClass E = some ce.cls) (hp : xp E w) (h1 : cells ≤ mc) (h2 : slots ≤ ms) : vx_W p l e R s m args below meth c H locs cells slots (vx_MQ below Qc (av_BX D cl ad ca A xp) args s mc ms A) (F0 m pc ls rest) q9 :=
  vx_out (fun x h => (hx x h).elim) K.2.2.2.2.2.2.2 hce hv hcl (fun t ht ha => ⟨w, trivial, ⟨hp, by rw [ht]; exact hP, hD⟩, hS.F ht⟩) hS.2.2 h1 h2
theorem av_preX (K : av_K p s m args meth c D cl ca A cc nL own Ts) (G : av_G Ns tab A s s.heap) (X : av_X A s s.heap) {H : Heap} {locs : List Loc} (hP : va_P D cl (ax_W ad ca w) H) (hD : va_D A (ax_W ad ca w)) (hS : va_S A s.heap H locs) (av : List Value) : PreS s H (va_Pc (av.map (ax_v ad)) (av_PreX D cl ca Ns tab ad w H.size)) (av.map (ax_v ad)) :=
  ⟨av_blindX, fun U hU hW => ⟨rfl, ((av_pre K G hP hD hS av).2 U hU hW).2, by rw [hU]; exact X.to hW (fun a h1 h2 => hS.2.1 a h1 h2) (av_sub K hD hS)⟩⟩
theorem av_xVi (K : av_K p s m args meth c D cl ca A cc nL own Ts) (G : av_G Ns tab A s s.heap) (X : av_X A s s.heap) (hx : ∀ x ∈ c.exceptionTable.toList, False) {y : MethodName} {ws1 : List Cond} {rm : Room} {bytes : ByteArray} {maxL index n q ci m1 n1 : Nat} {ret : Option FieldType} {C : String} {T : u_T} {N : Nat} {fs As : List Value} {post : Int32 → List va_E → Prop} {xq xp : String → List va_E → Prop} {Qc : Array Value → State → Outcome → State → Prop} (cal : av_Xi l D cl ca Ns tab y ws1 rm m1 n1 (.ref q :: As) w post xq) (cw : CallW R s args own C index y bytes maxL ret ws1 rm m1 n1 n)
    (hc : cl[ci]? = some (C, T, N)) (he : w[q]? = some (.inr (ci, fs))) (hn : As.length = n) (hst : As.reverse ++ .ref q :: st = st0) (hroom : (st.map Value.category).sum ≤ 8) (hd : decode cc pc = .ok (.invokevirtual index, 3)) (hf : cells + m1 ≤ R.cells ∧ slots + n1 ≤ R.slots) (h1 : cells + m1 ≤ mc) (h2 : slots + n1 ≤ ms) (hxp : ∀ E u, xq E u → xp E u)
    (k : ∀ r w', post r w' → av_V p l e R s m args below meth c D cl A ad ca nL (vx_MQ below Qc (av_BX D cl ad ca A xp) args s mc ms A) (cells + m1) (slots + n1) (pc + 3) L (.int r :: st) w') : av_V p l e R s m args below meth c D cl A ad ca nL (vx_MQ below Qc (av_BX D cl ad ca A xp) args s mc ms A) cells slots pc L st0 w := by
  intro H locs ls hP hD hS hL
  subst hst
  have hFc := av_sub K hD hS
  have hpr := av_preX K G X hP hD hS (.ref q :: As)
  refine vx_calli (vx_runV (As := As.map (ax_v ad)) (rest := st.map (ax_v ad)) ⟨K.1, K.2.1, K.2.2.1, K.2.2.2.1, K.2.2.2.2.1⟩ (cal ad H.size) cw ⟨hpr.1, va_recv K.2.2.2.2.2.1 hP hc (ax_W_at he), hpr.2⟩ rfl (by rw [List.length_map]; exact hn) hL.1 (by simp [ax_v]) (lv_room (by rw [List.map_map]; simpa [Function.comp_def, ax_v_cat] using hroom)) hd hf) hS (fun q _ h => hFc q h) hFc (fun q _ h => hFc q h) (fun E ce q9 u t H1 locs1 ht hvm _ hB hz1 hk1 hS1 hce hv hcl => ?_) (fun r w' t H1 locs1 ht hvm hp hB hz1 hk1 hS1 => ?_)
  · obtain ⟨hq, hP1, hD1⟩ := hB
    rw [ht] at hP1
    exact av_pout K hx hP1 (hD1.weaken (fun _ q _ h => hFc q.1 h)) hS1 hce hv hcl (hxp E u hq) h1 h2
  · obtain ⟨hP1, hD1⟩ := hB
    rw [ht] at hP1
    exact k r w' hp H1 locs1 ls hP1 (hD1.weaken (fun _ q _ h => hFc q.1 h)) hS1 hL
theorem av_xVv (K : av_K p s m args meth c D cl ca A cc nL own Ts) (G : av_G Ns tab A s s.heap) (X : av_X A s s.heap) (hx : ∀ x ∈ c.exceptionTable.toList, False) {y : MethodName} {ws1 : List Cond} {rm : Room} {bytes : ByteArray} {maxL index n q ci m1 n1 : Nat} {ret : Option FieldType} {C : String} {T : u_T} {N : Nat} {fs As : List Value} {post : List va_E → Prop} {xq xp : String → List va_E → Prop} {Qc : Array Value → State → Outcome → State → Prop} (cal : av_Xv l D cl ca Ns tab y ws1 rm m1 n1 (.ref q :: As) w post xq) (cw : CallW R s args own C index y bytes maxL ret ws1 rm m1 n1 n)
    (hc : cl[ci]? = some (C, T, N)) (he : w[q]? = some (.inr (ci, fs))) (hn : As.length = n) (hst : As.reverse ++ .ref q :: st = st0) (hroom : (st.map Value.category).sum ≤ 8) (hd : decode cc pc = .ok (.invokevirtual index, 3)) (hf : cells + m1 ≤ R.cells ∧ slots + n1 ≤ R.slots) (h1 : cells + m1 ≤ mc) (h2 : slots + n1 ≤ ms) (hxp : ∀ E u, xq E u → xp E u)
    (k : ∀ w', post w' → av_V p l e R s m args below meth c D cl A ad ca nL (vx_MQ below Qc (av_BX D cl ad ca A xp) args s mc ms A) (cells + m1) (slots + n1) (pc + 3) L st w') : av_V p l e R s m args below meth c D cl A ad ca nL (vx_MQ below Qc (av_BX D cl ad ca A xp) args s mc ms A) cells slots pc L st0 w := by
  intro H locs ls hP hD hS hL
  subst hst
  have hFc := av_sub K hD hS
  have hpr := av_preX K G X hP hD hS (.ref q :: As)
  refine vx_callv (vx_runV (As := As.map (ax_v ad)) (rest := st.map (ax_v ad)) ⟨K.1, K.2.1, K.2.2.1, K.2.2.2.1, K.2.2.2.2.1⟩ (cal ad H.size) cw ⟨hpr.1, va_recv K.2.2.2.2.2.1 hP hc (ax_W_at he), hpr.2⟩ rfl (by rw [List.length_map]; exact hn) hL.1 (by simp [ax_v]) (lv_room (by rw [List.map_map]; simpa [Function.comp_def, ax_v_cat] using hroom)) hd hf) hS (fun q _ h => hFc q h) hFc (fun q _ h => hFc q h) (fun E ce q9 u t H1 locs1 ht hvm _ hB hz1 hk1 hS1 hce hv hcl => ?_) (fun w' t H1 locs1 ht hvm hp hB hz1 hk1 hS1 => ?_)
  · obtain ⟨hq, hP1, hD1⟩ := hB
    rw [ht] at hP1
    exact av_pout K hx hP1 (hD1.weaken (fun _ q _ h => hFc q.1 h)) hS1 hce hv hcl (hxp E u hq) h1 h2
  · obtain ⟨hP1, hD1⟩ := hB
    rw [ht] at hP1
    exact k w' hp H1 locs1 ls hP1 (hD1.weaken (fun _ q _ h => hFc q.1 h)) hS1 hL
/-- new, dup, ldc, <init>, athrow -/
theorem av_throw (K : av_K p s m args meth c D cl ca A cc nL own Ts) (X : av_X A s s.heap) (hx : ∀ x ∈ c.exceptionTable.toList, False) (hl : l.stackTraces = false) {cls text : String} {ik is ic : Nat} (hco : own = "FaultTreeDesk") (hcls : cls ∈ EXN) (hs9 : (is, text) ∈ STR)
    (hk : Cond.classLink own ik cls ∈ Ts) (hini : Cond.initialized cls ∈ Ts) (hat1 : ∀ w ∈ (vx_atS own ic cls EXU).filter goodWord, w ∈ Ts) (hat2 : ∀ w ∈ (vx_atS own ic cls EXU).filter (fun w => !goodWord w), w ∈ Cond.castable cls cls :: DCL.map Cond.declares) (hgood : ∀ w ∈ Cond.classLink own ik cls :: Cond.initialized cls :: vx_atS own ic cls EXU, vx_ot w = true) (hfit : Bundle.fit cls = true ∧ ∀ n ∈ EXU, Bundle.fit n = true)
    (d0 : decode cc pc = .ok (.new ik, 3)) (d3 : decode cc (pc + 3) = .ok (.dup, 1)) (d4 : decode cc (pc + 4) = .ok (.ldc is, 2)) (d6 : decode cc (pc + 6) = .ok (.invokespecial ic, 3)) (d9 : decode cc (pc + 9) = .ok (.athrow, 1))
    {Qc : Array Value → State → Outcome → State → Prop} {xp : String → List va_E → Prop} (hRf : 5 < R.frames) (hRl : (st.map Value.category).sum + 82 ≤ R.locals) (hRc : cells + 1 ≤ R.cells) (hRs : slots + 6 ≤ R.slots) (h1 : cells + 1 ≤ mc) (h2 : slots + 6 ≤ ms) (hp : xp cls w) :
    av_V p l e R s m args below meth c D cl A ad ca nL (vx_MQ below Qc (av_BX D cl ad ca A xp) args s mc ms A) cells slots pc L st w := by
  intro H locs ls hP hD hS hL
  obtain ⟨sa, hsa⟩ := X.2.1 _ hs9
  subst hco
  refine vx_throwS (names := EXU) K.1 K.2.1 hl K.2.2.2.1 hfit.1 hfit.2 (K.2.2.2.2.1 _ hk) (K.2.2.2.2.1 _ hini) hsa (vx_hat (fun w hw => K.2.2.2.2.1 w (hat1 w hw)) hat2 (vx_c (va_Nw.use rfl (X.1.1 cls hcls)) (fun w hw => by obtain ⟨y, hy, rfl⟩ := List.mem_map.mp hw; exact va_Nw.use rfl (X.1.2 y hy)))) hgood X.2.2.1 X.2.2.2 hS (hL.1.trans K.2.2.1.symm) d0 d3 d4 d6 d9 (fun x h => (hx x h).elim) hRf (by rw [List.map_map]; simpa [Function.comp_def, ax_v_cat, EXU] using hRl) hRc hRs K.2.2.2.2.2.2.2 (fun t ha hz hk9 => ?_) hS.2.2 h1 h2
  have hk9' : ∀ (k : Nat) (x : Nat × va_E), (ax_W ad ca w)[k]? = some x → t.heap[x.1]? = H[x.1]? := fun k x hx => hk9 x.1 ((hP k x hx).lt)
  exact ⟨w, trivial, ⟨hp, hP.kept hk9', hD⟩, Nat.le_trans hS.1 hz, fun q g1 g2 => (hk9 q (Nat.lt_of_lt_of_le g1 hS.1)).trans (hS.2.1 q g1 g2)⟩
end AXC
abbrev av_XVI (p : Program) (l : Launch) (e : Env) (R : Room) (s : State) (m : MethodId) (args : Array Value) (below : List Frame) (meth : Method) (c : Code) (D : va_G) (cl : List vw_C) (A : Nat → Prop) (ad ca : Nat → Nat) (nL mc ms : Nat) (r : (String ⊕ Int32) × List va_E) (cells slots pc : Nat) (L : List (Option Value)) (st : List Value) (w : List va_E) : Prop := av_V p l e R s m args below meth c D cl A ad ca nL (vx_MQ below (va_Qi (fun v u => (Sum.inr v, u) = r) (av_B D cl ad ca A) A) (av_BX D cl ad ca A (fun E u => (Sum.inl E, u) = r)) args s mc ms A) cells slots pc L st w
abbrev av_XVL (p : Program) (l : Launch) (e : Env) (R : Room) (s : State) (m : MethodId) (args : Array Value) (below : List Frame) (meth : Method) (c : Code) (D : va_G) (cl : List vw_C) (A : Nat → Prop) (ad ca : Nat → Nat) (nL mc ms : Nat) (r : (String ⊕ Int64) × List va_E) (cells slots pc : Nat) (L : List (Option Value)) (st : List Value) (w : List va_E) : Prop := av_V p l e R s m args below meth c D cl A ad ca nL (vx_MQ below (va_Ql (fun v u => (Sum.inr v, u) = r) (av_B D cl ad ca A) A) (av_BX D cl ad ca A (fun E u => (Sum.inl E, u) = r)) args s mc ms A) cells slots pc L st w
abbrev av_XVV (p : Program) (l : Launch) (e : Env) (R : Room) (s : State) (m : MethodId) (args : Array Value) (below : List Frame) (meth : Method) (c : Code) (D : va_G) (cl : List vw_C) (A : Nat → Prop) (ad ca : Nat → Nat) (nL mc ms : Nat) (r : (String ⊕ Unit) × List va_E) (cells slots pc : Nat) (L : List (Option Value)) (st : List Value) (w : List va_E) : Prop := av_V p l e R s m args below meth c D cl A ad ca nL (vx_MQ below (va_Qv (fun u => (Sum.inr (), u) = r) (av_B D cl ad ca A) A) (av_BX D cl ad ca A (fun E u => (Sum.inl E, u) = r)) args s mc ms A) cells slots pc L st w
