/-! the law's helpers: a call that may throw, its classes caught by the method's own rows -/
def NCP : List (String × String) := [("java/lang/IllegalStateException", "java/lang/IllegalArgumentException"), ("java/lang/UnsupportedOperationException", "java/lang/IllegalArgumentException"), ("java/lang/UnsupportedOperationException", "java/lang/IllegalStateException"), ("java/lang/IndexOutOfBoundsException", "java/lang/IllegalArgumentException"), ("java/lang/IndexOutOfBoundsException", "java/lang/IllegalStateException"), ("java/lang/IndexOutOfBoundsException", "java/lang/UnsupportedOperationException")]
def av_N (U : State) : Prop := ∀ q ∈ NCP, va_Nc q.1 q.2 U
theorem av_N.to {s U : State} (h : av_N s) (hW : s.WarmedH U.vm) : av_N U := fun q hq => va_Nc.moved hW.alike (h q hq)
def av_PreH (D : va_G) (cl : List vw_C) (ca : Nat → Nat) (Ns : List Cond) (tab : Nat → Int64) (ad : Nat → Nat) (w : List va_E) (sz : Nat) (U : State) : Prop := av_PreX D cl ca Ns tab ad w sz U ∧ av_N U
theorem av_blindH {D : va_G} {cl : List vw_C} {ca : Nat → Nat} {Ns : List Cond} {tab : Nat → Int64} {ad : Nat → Nat} {w : List va_E} {sz : Nat} {av : List Value} : FrameBlind (va_Pc av (av_PreH D cl ca Ns tab ad w sz)) :=
  fun a U g mk q => ⟨q.1, (av_blindX a U g mk ⟨q.1, q.2.1⟩).2, fun z hz => va_Nc.moved (u := U) (U := U.calling g mk a) (Vm.Alike.refl U.vm) (q.2.2 z hz)⟩
def av_Hi (l : Launch) (D : va_G) (cl : List vw_C) (ca : Nat → Nat) (Ns : List Cond) (tab : Nat → Int64) (y : MethodName) (ws : List Cond) (rm : Room) (mc ms : Nat) (as : List Value) (w : List va_E) (post : Int32 → List va_E → Prop) : Prop :=
  ∀ (ad : Nat → Nat) (sz : Nat), Met l y ws rm (va_Pc (as.map (ax_v ad)) (av_PreH D cl ca Ns tab ad w sz)) (va_Qi post (av_B D cl ad ca (va_A (ax_W ad ca w) sz)) (va_A (ax_W ad ca w) sz)) mc ms (va_A (ax_W ad ca w) sz)
theorem av_ofWH {l : Launch} {y : MethodName} {ws ws' : List Cond} {rm : Room} {Pc : Array Value → State → Prop} {Qc : Array Value → State → Outcome → State → Prop} {mc ms : Nat} {free : Addr → Prop} {cc : ByteArray} {maxL : Nat} {ret : Option FieldType} {hh : List (Nat × Nat × Nat × Nat)}
    (hy : plainName y.cls = true) (hw : ws = Cond.codeWith y cc maxL ret hh :: ws')
    (body : ∀ p e s m args below meth c s₁, BodyLoose p l y (headSpec ws rm) cc maxL ret e s m args below meth c s₁ → c.maxLocals = maxL → Pc args s →
      W p l e (headSpec ws rm).room s m args below meth c s.heap [] 0 0 (MQ below Qc args s mc ms free) (entryFrame m args maxL)) : Met l y ws rm Pc Qc mc ms free := by
  refine MetFree.of_bodyS (code := cc) (maxLocals := maxL) (ret := ret) hy ?_ ?_
  · intro args s m h hn
    obtain ⟨m9, meth, c, hn9, h1, h2, h3, h4, -, h5, h6, -⟩ := Cond.codeWith_spec (atoms_spec (ws := ws) h _ (by rw [hw]; exact List.mem_cons_self))
    cases hn.symm.trans hn9
    exact ⟨meth, c, h1, h2, h3, h4, h5, h6⟩
  · intro p e s m args below meth c s₁ B hml hP _
    have hh0 : s₁.heap = s.heap := by rw [B.state]; rfl
    obtain ⟨t, a1, o, b1, b2, b3⟩ := body p e s m args below meth c s₁ B hml hP s₁ hh0 (Stand.of_body B)
    exact ⟨t, o, a1, b1, b2, ⟨b3.1, b3.2⟩⟩
section AHC
variable {l : Launch} {D : va_G} {cl : List vw_C} {ca : Nat → Nat} {Ns : List Cond} {tab : Nat → Int64}
theorem av_inH {y : MethodName} {ws ws' : List Cond} {rm : Room} {mc ms : Nat} {as : List Value} {w : List va_E} {post : Int32 → List va_E → Prop} {cc : ByteArray} {nL : Nat} {hh : List (Nat × Nat × Nat × Nat)} (hy : plainName y.cls = true) (hw : ws = Cond.codeWith y cc nL (some .int) hh :: ws') (hn : (ax_ar as).length ≤ nL)
    (h : ∀ (p : Program) (e : Env) (s : State) (m : MethodId) (args : Array Value) (below : List Frame) (meth : Method) (c : Code) (A : Nat → Prop) (ad : Nat → Nat), av_K p s m args meth c D cl ca A cc nL y.cls ws' → av_G Ns tab A s s.heap → av_X A s s.heap → av_N s → c.exceptionTable.toList = tableOf hh → meth.sig.returnType = some .int →
      av_V p l e rm s m args below meth c D cl A ad ca nL (MQ below (va_Qi post (av_B D cl ad ca A) A) args s mc ms A) 0 0 0 (ax_en nL as) [] w) : av_Hi l D cl ca Ns tab y ws rm mc ms as w post := by
  intro ad sz
  refine av_ofWH (cc := cc) (maxL := nL) (ret := some .int) (hh := hh) hy hw ?_
  intro p e s m args below meth c s₁ B hml hv
  obtain ⟨rfl, ⟨⟨hsz, hP, hK, hD0, hG⟩, hX⟩, hN⟩ := hv
  subst hsz
  have hts := atoms_spec (ws := ws) B.pre
  have htb := vx_table (x := y) B (hts (Cond.codeWith y cc nL (some .int) hh) (by rw [hw]; exact List.mem_cons_self))
  have hD := hD0.self (sz := s.heap.size)
  generalize hAe : va_A (ax_W ad ca w) s.heap.size = A at hD hG hX ⊢
  have hA : ∀ q : Nat, s.heap.size ≤ q → A q := fun q h => by rw [← hAe]; exact Or.inr h
  rw [lg_entry_eq]
  exact h p e s m _ below meth c A ad ⟨B.exec, B.bytes, hml, findClass_of_methodNamed B.named, fun w h9 => hts w (by rw [hw]; exact List.mem_cons_of_mem _ h9), hK, hA, B.notSynchronized⟩ hG hX hN htb B.returns s.heap [] _ hP hD va_S.rf (ax_L.en ad as hn)
variable {p : Program} {e : Env} {R : Room} {s : State} {m : MethodId} {args : Array Value} {below : List Frame} {meth : Method} {c : Code} {cells slots mc ms : Nat} {Q : State → Prop}
variable {A : Nat → Prop} {ad : Nat → Nat} {cc : ByteArray} {nL : Nat} {own : String} {Ts : List Cond}
variable {pc : Nat} {L L' : List (Option Value)} {st st0 : List Value} {w w' : List va_E}
/-- q is thrown over this frame, the world being w -/
def av_TV (p : Program) (l : Launch) (e : Env) (R : Room) (s : State) (m : MethodId) (args : Array Value) (below : List Frame) (meth : Method) (c : Code) (D : va_G) (cl : List vw_C) (A : Nat → Prop) (ad ca : Nat → Nat) (nL : Nat) (Q : State → Prop) (cells slots pc : Nat) (L : List (Option Value)) (E : String) (w : List va_E) : Prop :=
  ∀ (H : Heap) (locs : List Loc) (ls : Array Slot) (ce : Cell) (q9 : Addr) (rest : List Value), va_P D cl (ax_W ad ca w) H → va_D A (ax_W ad ca w) → va_S A s.heap H locs → ax_L ls nL ad L → H[q9]? = some ce → ce.vm = .none → s.vm.findClass E = some ce.cls → vx_W p l e R s m args below meth c H locs cells slots Q (F0 m pc ls rest) q9
theorem av_hVi (K : av_K p s m args meth c D cl ca A cc nL own Ts) (G : av_G Ns tab A s s.heap) (X : av_X A s s.heap) {y : MethodName} {ws1 : List Cond} {rm : Room} {bytes : ByteArray} {maxL index n q ci m1 n1 : Nat} {ret : Option FieldType} {C : String} {T : u_T} {N : Nat} {fs As : List Value} {post : Int32 → List va_E → Prop} {xq : String → List va_E → Prop} (cal : av_Xi l D cl ca Ns tab y ws1 rm m1 n1 (.ref q :: As) w post xq) (cw : CallW R s args own C index y bytes maxL ret ws1 rm m1 n1 n)
    (hc : cl[ci]? = some (C, T, N)) (he : w[q]? = some (.inr (ci, fs))) (hn : As.length = n) (hst : As.reverse ++ .ref q :: st = st0) (hroom : (st.map Value.category).sum ≤ 8) (hd : decode cc pc = .ok (.invokevirtual index, 3)) (hf : cells + m1 ≤ R.cells ∧ slots + n1 ≤ R.slots)
    (kx : ∀ E u, xq E u → av_TV p l e R s m args below meth c D cl A ad ca nL Q (cells + m1) (slots + n1) pc L E u)
    (k : ∀ r w', post r w' → av_V p l e R s m args below meth c D cl A ad ca nL Q (cells + m1) (slots + n1) (pc + 3) L (.int r :: st) w') : av_V p l e R s m args below meth c D cl A ad ca nL Q cells slots pc L st0 w := by
  intro H locs ls hP hD hS hL
  subst hst
  have hFc := av_sub K hD hS
  have hpr := av_preX K G X hP hD hS (.ref q :: As)
  refine vx_calli (vx_runV (As := As.map (ax_v ad)) (rest := st.map (ax_v ad)) ⟨K.1, K.2.1, K.2.2.1, K.2.2.2.1, K.2.2.2.2.1⟩ (cal ad H.size) cw ⟨hpr.1, va_recv K.2.2.2.2.2.1 hP hc (ax_W_at he), hpr.2⟩ rfl (by rw [List.length_map]; exact hn) hL.1 (by simp [ax_v]) (lv_room (by rw [List.map_map]; simpa [Function.comp_def, ax_v_cat] using hroom)) hd hf) hS (fun q _ h => hFc q h) hFc (fun q _ h => hFc q h) (fun E ce q9 u t H1 locs1 ht hvm _ hB hz1 hk1 hS1 hce hv hcl => ?_) (fun r w' t H1 locs1 ht hvm hp hB hz1 hk1 hS1 => ?_)
  · obtain ⟨hq, hP1, hD1⟩ := hB
    rw [ht] at hP1
    exact kx E u hq H1 locs1 ls ce q9 _ hP1 (hD1.weaken (fun _ q _ h => hFc q.1 h)) hS1 hL hce hv hcl
  · obtain ⟨hP1, hD1⟩ := hB
    rw [ht] at hP1
    exact k r w' hp H1 locs1 ls hP1 (hD1.weaken (fun _ q _ h => hFc q.1 h)) hS1 hL
theorem av_hVl (K : av_K p s m args meth c D cl ca A cc nL own Ts) (G : av_G Ns tab A s s.heap) (X : av_X A s s.heap) {y : MethodName} {ws1 : List Cond} {rm : Room} {bytes : ByteArray} {maxL index n q ci m1 n1 : Nat} {ret : Option FieldType} {C : String} {T : u_T} {N : Nat} {fs As : List Value} {post : Int64 → List va_E → Prop} {xq : String → List va_E → Prop} (cal : av_Xl l D cl ca Ns tab y ws1 rm m1 n1 (.ref q :: As) w post xq) (cw : CallW R s args own C index y bytes maxL ret ws1 rm m1 n1 n)
    (hc : cl[ci]? = some (C, T, N)) (he : w[q]? = some (.inr (ci, fs))) (hn : As.length = n) (hst : As.reverse ++ .ref q :: st = st0) (hroom : (st.map Value.category).sum ≤ 8) (hd : decode cc pc = .ok (.invokevirtual index, 3)) (hf : cells + m1 ≤ R.cells ∧ slots + n1 ≤ R.slots)
    (kx : ∀ E u, xq E u → av_TV p l e R s m args below meth c D cl A ad ca nL Q (cells + m1) (slots + n1) pc L E u)
    (k : ∀ r w', post r w' → av_V p l e R s m args below meth c D cl A ad ca nL Q (cells + m1) (slots + n1) (pc + 3) L (.long r :: st) w') : av_V p l e R s m args below meth c D cl A ad ca nL Q cells slots pc L st0 w := by
  intro H locs ls hP hD hS hL
  subst hst
  have hFc := av_sub K hD hS
  have hpr := av_preX K G X hP hD hS (.ref q :: As)
  refine vx_calll (vx_runV (As := As.map (ax_v ad)) (rest := st.map (ax_v ad)) ⟨K.1, K.2.1, K.2.2.1, K.2.2.2.1, K.2.2.2.2.1⟩ (cal ad H.size) cw ⟨hpr.1, va_recv K.2.2.2.2.2.1 hP hc (ax_W_at he), hpr.2⟩ rfl (by rw [List.length_map]; exact hn) hL.1 (by simp [ax_v]) (lv_room (by rw [List.map_map]; simpa [Function.comp_def, ax_v_cat] using hroom)) hd hf) hS (fun q _ h => hFc q h) hFc (fun q _ h => hFc q h) (fun E ce q9 u t H1 locs1 ht hvm _ hB hz1 hk1 hS1 hce hv hcl => ?_) (fun r w' t H1 locs1 ht hvm hp hB hz1 hk1 hS1 => ?_)
  · obtain ⟨hq, hP1, hD1⟩ := hB
    rw [ht] at hP1
    exact kx E u hq H1 locs1 ls ce q9 _ hP1 (hD1.weaken (fun _ q _ h => hFc q.1 h)) hS1 hL hce hv hcl
  · obtain ⟨hP1, hD1⟩ := hB
    rw [ht] at hP1
    exact k r w' hp H1 locs1 ls hP1 (hD1.weaken (fun _ q _ h => hFc q.1 h)) hS1 hL
theorem av_hVv (K : av_K p s m args meth c D cl ca A cc nL own Ts) (G : av_G Ns tab A s s.heap) (X : av_X A s s.heap) {y : MethodName} {ws1 : List Cond} {rm : Room} {bytes : ByteArray} {maxL index n q ci m1 n1 : Nat} {ret : Option FieldType} {C : String} {T : u_T} {N : Nat} {fs As : List Value} {post : List va_E → Prop} {xq : String → List va_E → Prop} (cal : av_Xv l D cl ca Ns tab y ws1 rm m1 n1 (.ref q :: As) w post xq) (cw : CallW R s args own C index y bytes maxL ret ws1 rm m1 n1 n)
    (hc : cl[ci]? = some (C, T, N)) (he : w[q]? = some (.inr (ci, fs))) (hn : As.length = n) (hst : As.reverse ++ .ref q :: st = st0) (hroom : (st.map Value.category).sum ≤ 8) (hd : decode cc pc = .ok (.invokevirtual index, 3)) (hf : cells + m1 ≤ R.cells ∧ slots + n1 ≤ R.slots)
    (kx : ∀ E u, xq E u → av_TV p l e R s m args below meth c D cl A ad ca nL Q (cells + m1) (slots + n1) pc L E u)
    (k : ∀ w', post w' → av_V p l e R s m args below meth c D cl A ad ca nL Q (cells + m1) (slots + n1) (pc + 3) L st w') : av_V p l e R s m args below meth c D cl A ad ca nL Q cells slots pc L st0 w := by
  intro H locs ls hP hD hS hL
  subst hst
  have hFc := av_sub K hD hS
  have hpr := av_preX K G X hP hD hS (.ref q :: As)
  refine vx_callv (vx_runV (As := As.map (ax_v ad)) (rest := st.map (ax_v ad)) ⟨K.1, K.2.1, K.2.2.1, K.2.2.2.1, K.2.2.2.2.1⟩ (cal ad H.size) cw ⟨hpr.1, va_recv K.2.2.2.2.2.1 hP hc (ax_W_at he), hpr.2⟩ rfl (by rw [List.length_map]; exact hn) hL.1 (by simp [ax_v]) (lv_room (by rw [List.map_map]; simpa [Function.comp_def, ax_v_cat] using hroom)) hd hf) hS (fun q _ h => hFc q h) hFc (fun q _ h => hFc q h) (fun E ce q9 u t H1 locs1 ht hvm _ hB hz1 hk1 hS1 hce hv hcl => ?_) (fun w' t H1 locs1 ht hvm hp hB hz1 hk1 hS1 => ?_)
  · obtain ⟨hq, hP1, hD1⟩ := hB
    rw [ht] at hP1
    exact kx E u hq H1 locs1 ls ce q9 _ hP1 (hD1.weaken (fun _ q _ h => hFc q.1 h)) hS1 hL hce hv hcl
  · obtain ⟨hP1, hD1⟩ := hB
    rw [ht] at hP1
    exact k w' hp H1 locs1 ls hP1 (hD1.weaken (fun _ q _ h => hFc q.1 h)) hS1 hL
/-- a handler that keeps the exception in a slot and answers a constant -/
theorem av_hand (K : av_K p s m args meth c D cl ca A cc nL own Ts) (X : av_X A s s.heap) (N : av_N s) {hh : List (Nat × Nat × Nat × Nat)} (ht : c.exceptionTable.toList = tableOf hh) {post : Int32 → List va_E → Prop} {E : String} {i : Nat} {v : Int32} {n : Int} {ln : Nat} (hr : meth.sig.returnType = some .int) (hE : E ∈ EXN)
    (pre : List ExceptionTableEntry) (x : ExceptionTableEntry) (suf : List ExceptionTableEntry) (hsp : tableOf hh = pre ++ x :: suf) (hpass : ∀ z ∈ pre, z.catchType ≠ 0 ∧ ∃ nm : String, Cond.classLink own z.catchType nm ∈ Ts ∧ (E, nm) ∈ NCP) (hx : covers x pc = true) (h0 : x.catchType ≠ 0) (hlink : Cond.classLink own x.catchType E ∈ Ts)
    (d1 : decode cc x.handlerPc = .ok (.astore_n 3, 1) ∧ ln = 1 ∧ i = 3 ∨ decode cc x.handlerPc = .ok (.astore_n 2, 1) ∧ ln = 1 ∧ i = 2 ∨ decode cc x.handlerPc = .ok (.astore 4, 2) ∧ ln = 2 ∧ i = 4) (hi : i < nL) (d2 : decode cc (x.handlerPc + ln) = .ok (.iconst n, 1)) (hv : Int32.ofInt n = v) (d3 : decode cc (x.handlerPc + ln + 1) = .ok (.ireturn, 1)) (hp : post v w) :
    av_TV p l e R s m args below meth c D cl A ad ca nL (MQ below (va_Qi post (av_B D cl ad ca A) A) args s cells slots A) cells slots pc L E w := by
  intro H locs ls ce q9 rest hP hD hS hL hce hvm hcl
  refine vx_catch K.2.2.2.1 pre x suf (ht.trans hsp) (fun z hz => Or.inr ⟨(hpass z hz).1, ?_⟩) hx h0 (K.2.2.2.2.1 _ hlink) (va_Nw.use rfl (X.1.1 E hE)) hce hvm hcl ?_
  · obtain ⟨nm, h1, h2⟩ := (hpass z hz).2
    exact ⟨nm, K.2.2.2.2.1 _ h1, N _ h2⟩
  · have fin : ∀ ls' : Array Slot, W p l e R s m args below meth c H locs cells slots (MQ below (va_Qi post (av_B D cl ad ca A) A) args s cells slots A) (F0 m (x.handlerPc + ln) ls' []) := fun ls' => lv_iconst K.1 K.2.1 d2 hv (W.iret (v := v) K.1 K.2.1 hr (fun t ht hW => ⟨⟨v, w, rfl, hp, by rw [ht]; exact hP, hD⟩, hS.F ht⟩) hS.2.2 d3 K.2.2.2.2.2.2.2)
    rcases d1 with ⟨d1, e1, e2⟩ | ⟨d1, e1, e2⟩ | ⟨d1, e1, e2⟩
    · subst e1; subst e2
      exact lv_astore_n K.1 K.2.1 d1 rfl hL.has hi rfl (fun ls' _ => fin ls')
    · subst e1; subst e2
      exact lv_astore_n K.1 K.2.1 d1 rfl hL.has hi rfl (fun ls' _ => fin ls')
    · subst e1; subst e2
      exact lv_astore K.1 K.2.1 d1 hL.has hi rfl (fun ls' _ => fin ls')
end AHC
def hl_bd {α β : Type} (o : Option ((String ⊕ α) × List va_E)) (kx : String → List va_E → Option β) (k : α → List va_E → Option β) : Option β := o.bind fun r => match r with
  | (.inl E, u) => kx E u
  | (.inr v, u) => k v u
theorem hl_of {α β : Type} {o : Option ((String ⊕ α) × List va_E)} {kx : String → List va_E → Option β} {k : α → List va_E → Option β} {R : β} (h : hl_bd o kx k = some R) : ∃ r, o = some r ∧ (∀ E u, r = (.inl E, u) → kx E u = some R) ∧ ∀ v u, r = (.inr v, u) → k v u = some R := by
  unfold hl_bd at h
  cases o with
  | none => cases h
  | some r =>
    refine ⟨r, rfl, fun E u hr => ?_, fun v u hr => ?_⟩
    · subst hr; exact h
    · subst hr; exact h
abbrev av_HVI (p : Program) (l : Launch) (e : Env) (R : Room) (s : State) (m : MethodId) (args : Array Value) (below : List Frame) (meth : Method) (c : Code) (D : va_G) (cl : List vw_C) (A : Nat → Prop) (ad ca : Nat → Nat) (nL : Nat) (r : Int32 × List va_E) (cells slots pc : Nat) (L : List (Option Value)) (st : List Value) (w : List va_E) : Prop := av_V p l e R s m args below meth c D cl A ad ca nL (MQ below (va_Qi (fun v u => (v, u) = r) (av_B D cl ad ca A) A) args s 8 48 A) cells slots pc L st w
def R_L : String := "FaultTreeDeskLaw"
