/-! contracts over abstract worlds: the class's nest words and the table of masks stand beside every world -/
def av_NK (w : Cond) : Bool := match w with
  | .fieldLinkNest _ _ _ _ _ _ => true
  | .methodLinkNest _ _ _ _ => true
  | _ => false
theorem av_NW {w : Cond} (hw : av_NK w = true) {s U : State} (hW : s.WarmedH U.vm) (h : va_Nw w s) : va_Nw w U := by
  cases w with
  | fieldLinkNest a i b n d x => exact va_Nw.warmF hW h
  | methodLinkNest a i x y => exact va_Nw.warmM hW h
  | _ => cases hw
theorem av_NS {w : Cond} (hw : av_NK w = true) {u U : State} (hv : u.vm = U.vm) (h : va_Nw w u) : va_Nw w U := by
  cases w with
  | fieldLinkNest a i b n d x => exact va_Nw.same rfl hv h
  | methodLinkNest a i x y => exact va_Nw.same rfl hv h
  | _ => cases hw
def av_G (Ns : List Cond) (tab : Nat → Int64) (A : Nat → Prop) (U : State) (H : Heap) : Prop := Ns.all av_NK = true ∧ (∀ w ∈ Ns, va_Nw w U) ∧ ∃ t : Nat, va_Z "FaultTreeDesk" "ON_IN_WORD" "[J" (.ref t) A U H ∧ va_T .long t 6 (fun j => .long (tab j)) A U H
theorem av_G.to {Ns : List Cond} {tab : Nat → Int64} {A B : Nat → Prop} {s U : State} {H H1 : Heap} (h : av_G Ns tab A s H) (hW : s.WarmedH U.vm) (hq : ∀ a : Nat, a < H.size → ¬ A a → H1[a]? = H[a]?) (hAB : ∀ q, B q → A q) : av_G Ns tab B U H1 := by
  obtain ⟨h0, h1, t, hZ, hT⟩ := h
  exact ⟨h0, fun w hw => av_NW (List.all_eq_true.mp h0 w hw) hW (h1 w hw), t, ((va_Z.moved hW.alike hZ).kept hq).narrow hAB, ((va_T.moved hW.alike hT).kept hq).narrow hAB⟩
theorem av_G.calling {Ns : List Cond} {tab : Nat → Int64} {A : Nat → Prop} {U : State} {g : JFrame} {mk : MethodId} {a : Array Value} (h : av_G Ns tab A U U.heap) : av_G Ns tab A (U.calling g mk a) (U.calling g mk a).heap := by
  obtain ⟨h0, h1, t, hZ, hT⟩ := h
  exact ⟨h0, fun w hw => av_NS (u := U) (U := U.calling g mk a) (List.all_eq_true.mp h0 w hw) rfl (h1 w hw), t, va_Z.moved (u := U) (U := U.calling g mk a) (Vm.Alike.refl U.vm) hZ, va_T.moved (u := U) (U := U.calling g mk a) (Vm.Alike.refl U.vm) hT⟩
def av_Pre (D : va_G) (cl : List vw_C) (ca : Nat → Nat) (Ns : List Cond) (tab : Nat → Int64) (ad : Nat → Nat) (w : List va_E) (sz : Nat) (U : State) : Prop := U.heap.size = sz ∧ va_P D cl (ax_W ad ca w) U.heap ∧ va_K D cl (ax_ty ca) U ∧ va_D (fun _ => True) (ax_W ad ca w) ∧ av_G Ns tab (va_A (ax_W ad ca w) sz) U U.heap
def av_B (D : va_G) (cl : List vw_C) (ad ca : Nat → Nat) (A0 : Nat → Prop) (w' : List va_E) (t : State) : Prop := va_P D cl (ax_W ad ca w') t.heap ∧ va_D A0 (ax_W ad ca w')
theorem av_blind {D : va_G} {cl : List vw_C} {ca : Nat → Nat} {Ns : List Cond} {tab : Nat → Int64} {ad : Nat → Nat} {w : List va_E} {sz : Nat} {av : List Value} : FrameBlind (va_Pc av (av_Pre D cl ca Ns tab ad w sz)) :=
  fun a U g mk q => ⟨q.1, q.2.1, q.2.2.1, va_K.moved (u := U) (U := U.calling g mk a) (Vm.Alike.refl U.vm) q.2.2.2.1, q.2.2.2.2.1, q.2.2.2.2.2.calling⟩
/-- a method that answers an int (or a boolean), a long, nothing; that makes no cell and throws nothing -/
def av_Ci (l : Launch) (D : va_G) (cl : List vw_C) (ca : Nat → Nat) (Ns : List Cond) (tab : Nat → Int64) (y : MethodName) (ws : List Cond) (rm : Room) (as : List Value) (w : List va_E) (post : Int32 → List va_E → Prop) : Prop :=
  ∀ (ad : Nat → Nat) (sz : Nat), Met l y ws rm (va_Pc (as.map (ax_v ad)) (av_Pre D cl ca Ns tab ad w sz)) (va_Qi post (av_B D cl ad ca (va_A (ax_W ad ca w) sz)) (va_A (ax_W ad ca w) sz)) 0 0 (va_A (ax_W ad ca w) sz)
def av_Cl (l : Launch) (D : va_G) (cl : List vw_C) (ca : Nat → Nat) (Ns : List Cond) (tab : Nat → Int64) (y : MethodName) (ws : List Cond) (rm : Room) (as : List Value) (w : List va_E) (post : Int64 → List va_E → Prop) : Prop :=
  ∀ (ad : Nat → Nat) (sz : Nat), Met l y ws rm (va_Pc (as.map (ax_v ad)) (av_Pre D cl ca Ns tab ad w sz)) (va_Ql post (av_B D cl ad ca (va_A (ax_W ad ca w) sz)) (va_A (ax_W ad ca w) sz)) 0 0 (va_A (ax_W ad ca w) sz)
def av_Cv (l : Launch) (D : va_G) (cl : List vw_C) (ca : Nat → Nat) (Ns : List Cond) (tab : Nat → Int64) (y : MethodName) (ws : List Cond) (rm : Room) (as : List Value) (w : List va_E) (post : List va_E → Prop) : Prop :=
  ∀ (ad : Nat → Nat) (sz : Nat), Met l y ws rm (va_Pc (as.map (ax_v ad)) (av_Pre D cl ca Ns tab ad w sz)) (va_Qv post (av_B D cl ad ca (va_A (ax_W ad ca w) sz)) (va_A (ax_W ad ca w) sz)) 0 0 (va_A (ax_W ad ca w) sz)
section AC
variable {l : Launch} {D : va_G} {cl : List vw_C} {ca : Nat → Nat} {Ns : List Cond} {tab : Nat → Int64}
theorem av_inI {y : MethodName} {ws ws' : List Cond} {rm : Room} {as : List Value} {w : List va_E} {post : Int32 → List va_E → Prop} {cc : ByteArray} {nL : Nat} {ty : FieldType} (hy : plainName y.cls = true) (hw : ws = Cond.code y cc nL (some ty) :: ws') (hn : (ax_ar as).length ≤ nL)
    (h : ∀ (p : Program) (e : Env) (s : State) (m : MethodId) (args : Array Value) (below : List Frame) (meth : Method) (c : Code) (A : Nat → Prop) (ad : Nat → Nat), av_K p s m args meth c D cl ca A cc nL y.cls ws' → av_G Ns tab A s s.heap → meth.sig.returnType = some ty →
      av_V p l e rm s m args below meth c D cl A ad ca nL (MQ below (va_Qi post (av_B D cl ad ca A) A) args s 0 0 A) 0 0 0 (ax_en nL as) [] w) : av_Ci l D cl ca Ns tab y ws rm as w post := by
  intro ad sz
  refine Met.ofW (cc := cc) (maxL := nL) (ret := some ty) hy hw ?_
  intro p e s m args below meth c s₁ B hml hv
  obtain ⟨rfl, hsz, hP, hK, hD0, hG⟩ := hv
  subst hsz
  have hts := atoms_spec (ws := ws) B.pre
  have hD := hD0.self (sz := s.heap.size)
  generalize hAe : va_A (ax_W ad ca w) s.heap.size = A at hD hG ⊢
  have hA : ∀ q : Nat, s.heap.size ≤ q → A q := fun q h => by rw [← hAe]; exact Or.inr h
  rw [lg_entry_eq]
  exact h p e s m _ below meth c A ad ⟨B.exec, B.bytes, hml, findClass_of_methodNamed B.named, fun w h9 => hts w (by rw [hw]; exact List.mem_cons_of_mem _ h9), hK, hA, B.notSynchronized⟩ hG B.returns s.heap [] _ hP hD va_S.rf (ax_L.en ad as hn)
theorem av_inL {y : MethodName} {ws ws' : List Cond} {rm : Room} {as : List Value} {w : List va_E} {post : Int64 → List va_E → Prop} {cc : ByteArray} {nL : Nat} {ty : FieldType} (hy : plainName y.cls = true) (hw : ws = Cond.code y cc nL (some ty) :: ws') (hn : (ax_ar as).length ≤ nL)
    (h : ∀ (p : Program) (e : Env) (s : State) (m : MethodId) (args : Array Value) (below : List Frame) (meth : Method) (c : Code) (A : Nat → Prop) (ad : Nat → Nat), av_K p s m args meth c D cl ca A cc nL y.cls ws' → av_G Ns tab A s s.heap → meth.sig.returnType = some ty →
      av_V p l e rm s m args below meth c D cl A ad ca nL (MQ below (va_Ql post (av_B D cl ad ca A) A) args s 0 0 A) 0 0 0 (ax_en nL as) [] w) : av_Cl l D cl ca Ns tab y ws rm as w post := by
  intro ad sz
  refine Met.ofW (cc := cc) (maxL := nL) (ret := some ty) hy hw ?_
  intro p e s m args below meth c s₁ B hml hv
  obtain ⟨rfl, hsz, hP, hK, hD0, hG⟩ := hv
  subst hsz
  have hts := atoms_spec (ws := ws) B.pre
  have hD := hD0.self (sz := s.heap.size)
  generalize hAe : va_A (ax_W ad ca w) s.heap.size = A at hD hG ⊢
  have hA : ∀ q : Nat, s.heap.size ≤ q → A q := fun q h => by rw [← hAe]; exact Or.inr h
  rw [lg_entry_eq]
  exact h p e s m _ below meth c A ad ⟨B.exec, B.bytes, hml, findClass_of_methodNamed B.named, fun w h9 => hts w (by rw [hw]; exact List.mem_cons_of_mem _ h9), hK, hA, B.notSynchronized⟩ hG B.returns s.heap [] _ hP hD va_S.rf (ax_L.en ad as hn)
theorem av_inV {y : MethodName} {ws ws' : List Cond} {rm : Room} {as : List Value} {w : List va_E} {post : List va_E → Prop} {cc : ByteArray} {nL : Nat} (hy : plainName y.cls = true) (hw : ws = Cond.code y cc nL none :: ws') (hn : (ax_ar as).length ≤ nL)
    (h : ∀ (p : Program) (e : Env) (s : State) (m : MethodId) (args : Array Value) (below : List Frame) (meth : Method) (c : Code) (A : Nat → Prop) (ad : Nat → Nat), av_K p s m args meth c D cl ca A cc nL y.cls ws' → av_G Ns tab A s s.heap → meth.sig.returnType = none →
      av_V p l e rm s m args below meth c D cl A ad ca nL (MQ below (va_Qv post (av_B D cl ad ca A) A) args s 0 0 A) 0 0 0 (ax_en nL as) [] w) : av_Cv l D cl ca Ns tab y ws rm as w post := by
  intro ad sz
  refine Met.ofW (cc := cc) (maxL := nL) (ret := none) hy hw ?_
  intro p e s m args below meth c s₁ B hml hv
  obtain ⟨rfl, hsz, hP, hK, hD0, hG⟩ := hv
  subst hsz
  have hts := atoms_spec (ws := ws) B.pre
  have hD := hD0.self (sz := s.heap.size)
  generalize hAe : va_A (ax_W ad ca w) s.heap.size = A at hD hG ⊢
  have hA : ∀ q : Nat, s.heap.size ≤ q → A q := fun q h => by rw [← hAe]; exact Or.inr h
  rw [lg_entry_eq]
  exact h p e s m _ below meth c A ad ⟨B.exec, B.bytes, hml, findClass_of_methodNamed B.named, fun w h9 => hts w (by rw [hw]; exact List.mem_cons_of_mem _ h9), hK, hA, B.notSynchronized⟩ hG B.returns s.heap [] _ hP hD va_S.rf (ax_L.en ad as hn)
variable {p : Program} {e : Env} {R : Room} {s : State} {m : MethodId} {args : Array Value} {below : List Frame} {meth : Method} {c : Code} {cells slots : Nat} {Q : State → Prop}
variable {A : Nat → Prop} {ad : Nat → Nat} {cc : ByteArray} {nL : Nat} {own : String} {Ts : List Cond}
variable {pc : Nat} {L L' : List (Option Value)} {st st0 : List Value} {w w' : List va_E}
theorem av_ireturn (K : av_K p s m args meth c D cl ca A cc nL own Ts) {post : Int32 → List va_E → Prop} {v : Int32} (hr : meth.sig.returnType = some .int) (hd : decode cc pc = .ok (.ireturn, 1)) (hp : post v w) : av_V p l e R s m args below meth c D cl A ad ca nL (MQ below (va_Qi post (av_B D cl ad ca A) A) args s cells slots A) cells slots pc L [.int v] w :=
  fun H locs ls hP hD hS hL => W.iret (v := v) K.1 K.2.1 hr (fun t ht hW => ⟨⟨v, w, rfl, hp, by rw [ht]; exact hP, hD⟩, hS.F ht⟩) hS.2.2 hd K.2.2.2.2.2.2.2
theorem av_zreturn (K : av_K p s m args meth c D cl ca A cc nL own Ts) {post : Int32 → List va_E → Prop} {v : Int32} (hr : meth.sig.returnType = some .boolean) (hn : narrow .boolean (.int v) = .int v) (hd : decode cc pc = .ok (.ireturn, 1)) (hp : post v w) : av_V p l e R s m args below meth c D cl A ad ca nL (MQ below (va_Qi post (av_B D cl ad ca A) A) args s cells slots A) cells slots pc L [.int v] w :=
  fun H locs ls hP hD hS hL => W.zret (v := v) K.1 K.2.1 hr hn (fun t ht hW => ⟨⟨v, w, rfl, hp, by rw [ht]; exact hP, hD⟩, hS.F ht⟩) hS.2.2 hd K.2.2.2.2.2.2.2
theorem av_lreturn (K : av_K p s m args meth c D cl ca A cc nL own Ts) {post : Int64 → List va_E → Prop} {v : Int64} (hr : meth.sig.returnType = some .long) (hd : decode cc pc = .ok (.lreturn, 1)) (hp : post v w) : av_V p l e R s m args below meth c D cl A ad ca nL (MQ below (va_Ql post (av_B D cl ad ca A) A) args s cells slots A) cells slots pc L [.long v] w :=
  fun H locs ls hP hD hS hL => W.lret (v := v) K.1 K.2.1 hr (fun t ht hW => ⟨⟨v, w, rfl, hp, by rw [ht]; exact hP, hD⟩, hS.F ht⟩) hS.2.2 hd K.2.2.2.2.2.2.2
theorem av_return (K : av_K p s m args meth c D cl ca A cc nL own Ts) {post : List va_E → Prop} (hr : meth.sig.returnType = none) (hd : decode cc pc = .ok (.return_, 1)) (hp : post w) : av_V p l e R s m args below meth c D cl A ad ca nL (MQ below (va_Qv post (av_B D cl ad ca A) A) args s cells slots A) cells slots pc L [] w :=
  fun H locs ls hP hD hS hL => W.vret K.1 K.2.1 hr (fun t ht hW => ⟨⟨w, rfl, hp, by rw [ht]; exact hP, hD⟩, hS.F ht⟩) hS.2.2 hd K.2.2.2.2.2.2.2
theorem av_sub (K : av_K p s m args meth c D cl ca A cc nL own Ts) {H : Heap} {locs : List Loc} (hD : va_D A (ax_W ad ca w)) (hS : va_S A s.heap H locs) : ∀ q, va_A (ax_W ad ca w) H.size q → A q := by
  intro q h
  rcases h with ⟨k, e, h⟩ | h
  · exact hD.2 k (q, e) h
  · exact K.2.2.2.2.2.2.1 q (Nat.le_trans hS.1 h)
theorem av_pre (K : av_K p s m args meth c D cl ca A cc nL own Ts) (G : av_G Ns tab A s s.heap) {H : Heap} {locs : List Loc} (hP : va_P D cl (ax_W ad ca w) H) (hD : va_D A (ax_W ad ca w)) (hS : va_S A s.heap H locs) (av : List Value) : PreS s H (va_Pc (av.map (ax_v ad)) (av_Pre D cl ca Ns tab ad w H.size)) (av.map (ax_v ad)) :=
  ⟨av_blind, fun U hU hW => ⟨rfl, by rw [hU], by rw [hU]; exact hP, va_K.moved hW.alike K.2.2.2.2.2.1, hD.weaken (fun _ _ _ _ => trivial), by rw [hU]; exact G.to hW (fun a h1 h2 => hS.2.1 a h1 h2) (av_sub K hD hS)⟩⟩
/-- calls: virtual (V), static (S); int, long, nothing -/
theorem av_cVi (K : av_K p s m args meth c D cl ca A cc nL own Ts) (G : av_G Ns tab A s s.heap) {y : MethodName} {ws1 : List Cond} {rm : Room} {bytes : ByteArray} {maxL index n q ci : Nat} {ret : Option FieldType} {C : String} {T : u_T} {N : Nat} {fs As : List Value} {post : Int32 → List va_E → Prop} (cal : av_Ci l D cl ca Ns tab y ws1 rm (.ref q :: As) w post) (cw : CallW R s args own C index y bytes maxL ret ws1 rm 0 0 n)
    (hc : cl[ci]? = some (C, T, N)) (he : w[q]? = some (.inr (ci, fs))) (hn : As.length = n) (hst : As.reverse ++ .ref q :: st = st0) (hroom : (st.map Value.category).sum ≤ 8) (hd : decode cc pc = .ok (.invokevirtual index, 3)) (hf : cells ≤ R.cells ∧ slots ≤ R.slots)
    (k : ∀ r w', post r w' → av_V p l e R s m args below meth c D cl A ad ca nL Q cells slots (pc + 3) L (.int r :: st) w') : av_V p l e R s m args below meth c D cl A ad ca nL Q cells slots pc L st0 w := by
  intro H locs ls hP hD hS hL
  subst hst
  have hFc := av_sub K hD hS
  have hpr := av_pre K G hP hD hS (.ref q :: As)
  refine va_calli (va_runV (As := As.map (ax_v ad)) (rest := st.map (ax_v ad)) ⟨K.1, K.2.1, K.2.2.1, K.2.2.2.1, K.2.2.2.2.1⟩ (cal ad H.size) cw ⟨hpr.1, va_recv K.2.2.2.2.2.1 hP hc (ax_W_at he), hpr.2⟩ rfl (by rw [List.length_map]; exact hn) hL.1 (by simp [ax_v]) (lv_room (by rw [List.map_map]; simpa [Function.comp_def, ax_v_cat] using hroom)) hd hf) hS (fun q _ h => hFc q h) hFc (fun r w' t H1 locs1 ht hvm hp hB hz1 hk1 hS1 => ?_)
  obtain ⟨hP1, hD1⟩ := hB
  rw [ht] at hP1
  exact k r w' hp H1 locs1 ls hP1 (hD1.weaken (fun _ q _ h => hFc q.1 h)) hS1 hL
theorem av_cVl (K : av_K p s m args meth c D cl ca A cc nL own Ts) (G : av_G Ns tab A s s.heap) {y : MethodName} {ws1 : List Cond} {rm : Room} {bytes : ByteArray} {maxL index n q ci : Nat} {ret : Option FieldType} {C : String} {T : u_T} {N : Nat} {fs As : List Value} {post : Int64 → List va_E → Prop} (cal : av_Cl l D cl ca Ns tab y ws1 rm (.ref q :: As) w post) (cw : CallW R s args own C index y bytes maxL ret ws1 rm 0 0 n)
    (hc : cl[ci]? = some (C, T, N)) (he : w[q]? = some (.inr (ci, fs))) (hn : As.length = n) (hst : As.reverse ++ .ref q :: st = st0) (hroom : (st.map Value.category).sum ≤ 8) (hd : decode cc pc = .ok (.invokevirtual index, 3)) (hf : cells ≤ R.cells ∧ slots ≤ R.slots)
    (k : ∀ r w', post r w' → av_V p l e R s m args below meth c D cl A ad ca nL Q cells slots (pc + 3) L (.long r :: st) w') : av_V p l e R s m args below meth c D cl A ad ca nL Q cells slots pc L st0 w := by
  intro H locs ls hP hD hS hL
  subst hst
  have hFc := av_sub K hD hS
  have hpr := av_pre K G hP hD hS (.ref q :: As)
  refine va_calll (va_runV (As := As.map (ax_v ad)) (rest := st.map (ax_v ad)) ⟨K.1, K.2.1, K.2.2.1, K.2.2.2.1, K.2.2.2.2.1⟩ (cal ad H.size) cw ⟨hpr.1, va_recv K.2.2.2.2.2.1 hP hc (ax_W_at he), hpr.2⟩ rfl (by rw [List.length_map]; exact hn) hL.1 (by simp [ax_v]) (lv_room (by rw [List.map_map]; simpa [Function.comp_def, ax_v_cat] using hroom)) hd hf) hS (fun q _ h => hFc q h) hFc (fun r w' t H1 locs1 ht hvm hp hB hz1 hk1 hS1 => ?_)
  obtain ⟨hP1, hD1⟩ := hB
  rw [ht] at hP1
  exact k r w' hp H1 locs1 ls hP1 (hD1.weaken (fun _ q _ h => hFc q.1 h)) hS1 hL
theorem av_cVv (K : av_K p s m args meth c D cl ca A cc nL own Ts) (G : av_G Ns tab A s s.heap) {y : MethodName} {ws1 : List Cond} {rm : Room} {bytes : ByteArray} {maxL index n q ci : Nat} {ret : Option FieldType} {C : String} {T : u_T} {N : Nat} {fs As : List Value} {post : List va_E → Prop} (cal : av_Cv l D cl ca Ns tab y ws1 rm (.ref q :: As) w post) (cw : CallW R s args own C index y bytes maxL ret ws1 rm 0 0 n)
    (hc : cl[ci]? = some (C, T, N)) (he : w[q]? = some (.inr (ci, fs))) (hn : As.length = n) (hst : As.reverse ++ .ref q :: st = st0) (hroom : (st.map Value.category).sum ≤ 8) (hd : decode cc pc = .ok (.invokevirtual index, 3)) (hf : cells ≤ R.cells ∧ slots ≤ R.slots)
    (k : ∀ w', post w' → av_V p l e R s m args below meth c D cl A ad ca nL Q cells slots (pc + 3) L st w') : av_V p l e R s m args below meth c D cl A ad ca nL Q cells slots pc L st0 w := by
  intro H locs ls hP hD hS hL
  subst hst
  have hFc := av_sub K hD hS
  have hpr := av_pre K G hP hD hS (.ref q :: As)
  refine va_callv (va_runV (As := As.map (ax_v ad)) (rest := st.map (ax_v ad)) ⟨K.1, K.2.1, K.2.2.1, K.2.2.2.1, K.2.2.2.2.1⟩ (cal ad H.size) cw ⟨hpr.1, va_recv K.2.2.2.2.2.1 hP hc (ax_W_at he), hpr.2⟩ rfl (by rw [List.length_map]; exact hn) hL.1 (by simp [ax_v]) (lv_room (by rw [List.map_map]; simpa [Function.comp_def, ax_v_cat] using hroom)) hd hf) hS (fun q _ h => hFc q h) hFc (fun w' t H1 locs1 ht hvm hp hB hz1 hk1 hS1 => ?_)
  obtain ⟨hP1, hD1⟩ := hB
  rw [ht] at hP1
  exact k w' hp H1 locs1 ls hP1 (hD1.weaken (fun _ q _ h => hFc q.1 h)) hS1 hL
theorem av_cSi (K : av_K p s m args meth c D cl ca A cc nL own Ts) (G : av_G Ns tab A s s.heap) {y : MethodName} {ws1 : List Cond} {rm : Room} {bytes : ByteArray} {maxL index n : Nat} {ret : Option FieldType} {As : List Value} {post : Int32 → List va_E → Prop} (cal : av_Ci l D cl ca Ns tab y ws1 rm As w post) (cw : CallB R s args own index y bytes maxL ret ws1 rm 0 0 n ∧ (Cond.static y).before args s = true)
    (hn : As.length = n) (hst : As.reverse ++ st = st0) (hroom : (st.map Value.category).sum ≤ 8) (hd : decode cc pc = .ok (.invokestatic index, 3)) (hf : cells ≤ R.cells ∧ slots ≤ R.slots)
    (k : ∀ r w', post r w' → av_V p l e R s m args below meth c D cl A ad ca nL Q cells slots (pc + 3) L (.int r :: st) w') : av_V p l e R s m args below meth c D cl A ad ca nL Q cells slots pc L st0 w := by
  intro H locs ls hP hD hS hL
  subst hst
  have hFc := av_sub K hD hS
  refine va_calli (va_runS (As := As.map (ax_v ad)) (rest := st.map (ax_v ad)) ⟨K.1, K.2.1, K.2.2.1, K.2.2.2.1, K.2.2.2.2.1⟩ (cal ad H.size) cw (av_pre K G hP hD hS As) rfl (by rw [List.length_map]; exact hn) hL.1 (by simp) (lv_room (by rw [List.map_map]; simpa [Function.comp_def, ax_v_cat] using hroom)) hd hf) hS (fun q _ h => hFc q h) hFc (fun r w' t H1 locs1 ht hvm hp hB hz1 hk1 hS1 => ?_)
  obtain ⟨hP1, hD1⟩ := hB
  rw [ht] at hP1
  exact k r w' hp H1 locs1 ls hP1 (hD1.weaken (fun _ q _ h => hFc q.1 h)) hS1 hL
theorem av_cSl (K : av_K p s m args meth c D cl ca A cc nL own Ts) (G : av_G Ns tab A s s.heap) {y : MethodName} {ws1 : List Cond} {rm : Room} {bytes : ByteArray} {maxL index n : Nat} {ret : Option FieldType} {As : List Value} {post : Int64 → List va_E → Prop} (cal : av_Cl l D cl ca Ns tab y ws1 rm As w post) (cw : CallB R s args own index y bytes maxL ret ws1 rm 0 0 n ∧ (Cond.static y).before args s = true)
    (hn : As.length = n) (hst : As.reverse ++ st = st0) (hroom : (st.map Value.category).sum ≤ 8) (hd : decode cc pc = .ok (.invokestatic index, 3)) (hf : cells ≤ R.cells ∧ slots ≤ R.slots)
    (k : ∀ r w', post r w' → av_V p l e R s m args below meth c D cl A ad ca nL Q cells slots (pc + 3) L (.long r :: st) w') : av_V p l e R s m args below meth c D cl A ad ca nL Q cells slots pc L st0 w := by
  intro H locs ls hP hD hS hL
  subst hst
  have hFc := av_sub K hD hS
  refine va_calll (va_runS (As := As.map (ax_v ad)) (rest := st.map (ax_v ad)) ⟨K.1, K.2.1, K.2.2.1, K.2.2.2.1, K.2.2.2.2.1⟩ (cal ad H.size) cw (av_pre K G hP hD hS As) rfl (by rw [List.length_map]; exact hn) hL.1 (by simp) (lv_room (by rw [List.map_map]; simpa [Function.comp_def, ax_v_cat] using hroom)) hd hf) hS (fun q _ h => hFc q h) hFc (fun r w' t H1 locs1 ht hvm hp hB hz1 hk1 hS1 => ?_)
  obtain ⟨hP1, hD1⟩ := hB
  rw [ht] at hP1
  exact k r w' hp H1 locs1 ls hP1 (hD1.weaken (fun _ q _ h => hFc q.1 h)) hS1 hL
/-- the table of masks: getstatic, an index from the locals, laload -/
theorem av_tab (K : av_K p s m args meth c D cl ca A cc nL own Ts) (G : av_G Ns tab A s s.heap) {index : Nat} {host : String} {i : Int32} (hl : Cond.fieldLinkNest own index "FaultTreeDesk" "ON_IN_WORD" "[J" host ∈ Ns) (hd : decode cc pc = .ok (.getstatic index, 3)) {pc2 : Nat} (hld : ∀ (H : Heap) (locs : List Loc) (ls : Array Slot) (rest : List Value), ax_L ls nL ad L → W p l e R s m args below meth c H locs cells slots Q (F0 m pc2 ls (.int i :: rest)) → W p l e R s m args below meth c H locs cells slots Q (F0 m (pc + 3) ls rest)) (hd2 : decode cc pc2 = .ok (.laload, 1)) (hin : ¬ (i < 0 ∨ 6 ≤ i.toNatClampNeg))
    (k : av_V p l e R s m args below meth c D cl A ad ca nL Q cells slots (pc2 + 1) L (.long (tab i.toNatClampNeg) :: st) w) : av_V p l e R s m args below meth c D cl A ad ca nL Q cells slots pc L st w := by
  intro H locs ls hP hD hS hL
  obtain ⟨-, hN, t, hZ, hT⟩ := G
  refine va_getsN K.1 K.2.1 hZ hS K.2.2.2.1 (va_Nw.use rfl (hN _ hl)) (fun _ h => h) hd ?_
  refine hld H locs ls _ hL ?_
  exact va_tl K.1 K.2.1 hT hS hin rfl hd2 (k H locs ls hP hD hS hL)
end AC
abbrev av_VI (p : Program) (l : Launch) (e : Env) (R : Room) (s : State) (m : MethodId) (args : Array Value) (below : List Frame) (meth : Method) (c : Code) (D : va_G) (cl : List vw_C) (A : Nat → Prop) (ad ca : Nat → Nat) (nL : Nat) (r : Int32 × List va_E) (pc : Nat) (L : List (Option Value)) (st : List Value) (w : List va_E) : Prop := av_V p l e R s m args below meth c D cl A ad ca nL (MQ below (va_Qi (fun v u => (v, u) = r) (av_B D cl ad ca A) A) args s 0 0 A) 0 0 pc L st w
abbrev av_VL (p : Program) (l : Launch) (e : Env) (R : Room) (s : State) (m : MethodId) (args : Array Value) (below : List Frame) (meth : Method) (c : Code) (D : va_G) (cl : List vw_C) (A : Nat → Prop) (ad ca : Nat → Nat) (nL : Nat) (r : Int64 × List va_E) (pc : Nat) (L : List (Option Value)) (st : List Value) (w : List va_E) : Prop := av_V p l e R s m args below meth c D cl A ad ca nL (MQ below (va_Ql (fun v u => (v, u) = r) (av_B D cl ad ca A) A) args s 0 0 A) 0 0 pc L st w
abbrev av_VV (p : Program) (l : Launch) (e : Env) (R : Room) (s : State) (m : MethodId) (args : Array Value) (below : List Frame) (meth : Method) (c : Code) (D : va_G) (cl : List vw_C) (A : Nat → Prop) (ad ca : Nat → Nat) (nL : Nat) (r : List va_E) (pc : Nat) (L : List (Option Value)) (st : List Value) (w : List va_E) : Prop := av_V p l e R s m args below meth c D cl A ad ca nL (MQ below (va_Qv (fun u => u = r) (av_B D cl ad ca A) A) args s 0 0 A) 0 0 pc L st w
