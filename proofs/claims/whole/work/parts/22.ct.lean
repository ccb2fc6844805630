/-! constructors: the world grows by what they make -/
theorem va_AOA.warm {t : FieldType} {s U : State} (hW : s.WarmedH U.vm) (h : va_AOA t s) : va_AOA t U := by
  have e := Cond.arrayOver_setVmC (args := #[]) hW.alike (.array t)
  unfold va_AOA at h ⊢
  rw [← e] at h
  exact h
def av_PreN (D : va_G) (cl : List vw_C) (ca : Nat → Nat) (Ns : List Cond) (tab : Nat → Int64) (ad : Nat → Nat) (w : List va_E) (sz : Nat) (U : State) : Prop := av_Pre D cl ca Ns tab ad w sz U ∧ va_AOA .long U
theorem av_blindN {D : va_G} {cl : List vw_C} {ca : Nat → Nat} {Ns : List Cond} {tab : Nat → Int64} {ad : Nat → Nat} {w : List va_E} {sz : Nat} {av : List Value} : FrameBlind (va_Pc av (av_PreN D cl ca Ns tab ad w sz)) :=
  fun a U g mk q => ⟨q.1, (av_blind a U g mk ⟨q.1, q.2.1⟩).2, q.2.2⟩
def av_Nv (l : Launch) (D : va_G) (cl : List vw_C) (ca : Nat → Nat) (Ns : List Cond) (tab : Nat → Int64) (y : MethodName) (ws : List Cond) (rm : Room) (mc ms : Nat) (as : List Value) (w : List va_E) (post : List va_E → Prop) : Prop :=
  ∀ (ad : Nat → Nat) (b : Nat), (∀ k, w.length ≤ k → ad k = b + k) → Met l y ws rm (va_Pc (as.map (ax_v ad)) (av_PreN D cl ca Ns tab ad w (b + w.length))) (va_Qv post (av_B D cl ad ca (va_A (ax_W ad ca w) (b + w.length))) (va_A (ax_W ad ca w) (b + w.length))) mc ms (va_A (ax_W ad ca w) (b + w.length))
section ACT
variable {l : Launch} {D : va_G} {cl : List vw_C} {ca : Nat → Nat} {Ns : List Cond} {tab : Nat → Int64}
theorem av_inN {y : MethodName} {ws ws' : List Cond} {rm : Room} {mc ms : Nat} {as : List Value} {w : List va_E} {post : List va_E → Prop} {cc : ByteArray} {nL : Nat} (hy : plainName y.cls = true) (hyn : y.name = "<init>") (hw : ws = Cond.code y cc nL none :: ws') (hn : (ax_ar as).length ≤ nL)
    (h : ∀ (p : Program) (e : Env) (s : State) (m : MethodId) (args : Array Value) (below : List Frame) (meth : Method) (c : Code) (A : Nat → Prop) (ad : Nat → Nat) (b : Nat), av_K p s m args meth c D cl ca A cc nL y.cls ws' → av_G Ns tab A s s.heap → va_AOA .long s → meth.name = "<init>" → meth.sig.returnType = none → s.heap.size = b + w.length → (∀ k, w.length ≤ k → ad k = b + k) →
      av_V p l e rm s m args below meth c D cl A ad ca nL (MQ below (va_Qv post (av_B D cl ad ca A) A) args s mc ms A) 0 0 0 (ax_en nL as) [] w) : av_Nv l D cl ca Ns tab y ws rm mc ms as w post := by
  intro ad b had
  refine Met.ofW (cc := cc) (maxL := nL) (ret := none) hy hw ?_
  intro p e s m args below meth c s₁ B hml hv
  obtain ⟨rfl, ⟨hsz, hP, hK, hD0, hG⟩, hO⟩ := hv
  have hts := atoms_spec (ws := ws) B.pre
  have hD := hD0.self (sz := s.heap.size)
  rw [← hsz] at hG ⊢
  generalize hAe : va_A (ax_W ad ca w) s.heap.size = A at hD hG ⊢
  have hA : ∀ q : Nat, s.heap.size ≤ q → A q := fun q h => by rw [← hAe]; exact Or.inr h
  rw [lg_entry_eq]
  exact h p e s m _ below meth c A ad b ⟨B.exec, B.bytes, hml, findClass_of_methodNamed B.named, fun w h9 => hts w (by rw [hw]; exact List.mem_cons_of_mem _ h9), hK, hA, B.notSynchronized⟩ hG hO ((name_of_methodNamed B.named B.method).1.trans hyn) B.returns hsz had s.heap [] _ hP hD va_S.rf (ax_L.en ad as hn)
variable {p : Program} {e : Env} {R : Room} {s : State} {m : MethodId} {args : Array Value} {below : List Frame} {meth : Method} {c : Code} {cells slots : Nat} {Q : State → Prop}
variable {A : Nat → Prop} {ad : Nat → Nat} {cc : ByteArray} {nL b n0 : Nat} {own : String} {Ts : List Cond}
variable {pc : Nat} {L L' : List (Option Value)} {st st0 : List Value} {w w' : List va_E}
theorem av_preN (K : av_K p s m args meth c D cl ca A cc nL own Ts) (G : av_G Ns tab A s s.heap) (O : va_AOA .long s) {H : Heap} {locs : List Loc} {sz : Nat} (hsz : H.size = sz) (hP : va_P D cl (ax_W ad ca w) H) (hD : va_D A (ax_W ad ca w)) (hS : va_S A s.heap H locs) (av : List Value) : PreS s H (va_Pc (av.map (ax_v ad)) (av_PreN D cl ca Ns tab ad w sz)) (av.map (ax_v ad)) := by
  subst hsz
  exact ⟨av_blindN, fun U hU hW => ⟨rfl, ((av_pre K G hP hD hS av).2 U hU hW).2, O.warm hW⟩⟩
/-- a constructor of a nest mate -/
theorem av_cN (K : av_K p s m args meth c D cl ca A cc nL own Ts) (G : av_G Ns tab A s s.heap) (O : va_AOA .long s) (hs0 : s.heap.size = b + n0) (he : s.heap.size + cells = b + w.length) (had : ∀ k, n0 ≤ k → ad k = b + k) {y : MethodName} {ws1 : List Cond} {rm : Room} {bytes : ByteArray} {maxL index n q m1 n1 : Nat} {host : String} {As : List Value} {post : List va_E → Prop} (cal : av_Nv l D cl ca Ns tab y ws1 rm m1 n1 (.ref q :: As) w post) (cw : va_CN R s args own index y host bytes maxL none ws1 rm m1 n1 n ∧ y.name = "<init>" ∧ (Cond.instanceMethod y).before args s = true)
    (hn : As.length = n) (hst : As.reverse ++ .ref q :: st = st0) (hroom : (st.map Value.category).sum ≤ 8) (hd : decode cc pc = .ok (.invokespecial index, 3)) (hf : cells + m1 ≤ R.cells ∧ slots + n1 ≤ R.slots)
    (k : ∀ w', post w' → av_V p l e R s m args below meth c D cl A ad ca nL Q (cells + m1) (slots + n1) (pc + 3) L st w') : av_V p l e R s m args below meth c D cl A ad ca nL Q cells slots pc L st0 w := by
  intro H locs ls hP hD hS hL T hT X
  subst hst
  have hsz := av_sz hs0 he had hP hS hT X
  have hFc := av_sub K hD hS
  have hpr := av_preN K G O hsz hP hD hS (.ref q :: As)
  refine va_callv (va_runIN (As := As.map (ax_v ad)) (rest := st.map (ax_v ad)) ⟨K.1, K.2.1, K.2.2.1, K.2.2.2.1, K.2.2.2.2.1⟩ (cal ad b (fun k hk => had k (by omega))) cw hpr rfl (by rw [List.length_map]; exact hn) hL.1 (by simp [ax_v]) (lv_room (by rw [List.map_map]; simpa [Function.comp_def, ax_v_cat] using hroom)) hd hf) hS (fun q _ h => hFc q (by rw [hsz]; exact h)) (fun q h => hFc q (by rw [hsz]; exact h)) (fun w' t H1 locs1 ht hvm hp hB hz1 hk1 hS1 => ?_) T hT X
  obtain ⟨hP1, hD1⟩ := hB
  rw [ht] at hP1
  exact k w' hp H1 locs1 ls hP1 (hD1.weaken (fun _ q _ h => hFc q.1 (by rw [hsz]; exact h))) hS1 hL
/-- new long[n][k] -/
theorem av_mg (K : av_K p s m args meth c D cl ca A cc nL own Ts) (O : va_AOA .long s) (hs0 : s.heap.size = b + n0) (he : s.heap.size + cells = b + w.length) (had : ∀ k, n0 ≤ k → ad k = b + k) {index N M : Nat} {x y : Int32} (hcl : Cond.classLink own index "[[J" ∈ Ts) (harr : Cond.arrayClass .long ∈ Ts) (hx : ¬ x < 0 ∧ x.toNatClampNeg = N) (hy : ¬ y < 0 ∧ y.toNatClampNeg = M) (hb1 : N * 4 ≤ 536870912) (hb2 : M * 8 ≤ 536870912) (hRc : cells + (1 + N) ≤ R.cells) (hRs : slots + (N + N * M) ≤ R.slots) (hd : decode cc pc = .ok (.multianewarray index 2, 4)) (hw : hp_ng w N M = some w')
    (kk : av_V p l e R s m args below meth c D cl A ad ca nL Q (cells + 1 + N) (slots + N + N * M) (pc + 4) L (.ref w.length :: st) w') : av_V p l e R s m args below meth c D cl A ad ca nL Q cells slots pc L (.int y :: .int x :: st) w := by
  intro H locs ls hP hD hS hL T hT X
  have hsz := av_sz hs0 he had hP hS hT X
  obtain ⟨hx1, rfl⟩ := hx
  obtain ⟨hy1, rfl⟩ := hy
  obtain ⟨vm₁, cA, comp, -, fA, fC, hO, -, X', step⟩ := X.multianewarray2F K.1 K.2.2.2.1 (ty := .long) (K.2.2.2.2.1 _ hcl) (va_AOA.use O) (K.2.2.2.2.1 _ harr) (g := F0 m pc ls ((Value.int y :: Value.int x :: st).map (ax_v ad))) rfl (by rw [K.2.1]; exact hd) rfl hx1 hy1 hb1 hb2 (by omega) rfl rfl hRc hRs
  have hcA : cA = ca 3 := Option.some.inj (fA.symm.trans (K.2.2.2.2.2.1.2 3 _ rfl).2)
  have hco : comp = ca 1 := Option.some.inj (fC.symm.trans (K.2.2.2.2.2.1.2 1 _ rfl).2)
  subst hcA
  subst hco
  generalize hF : Jvm.Free.Multi.fill (T.setVm vm₁) (ca 3) (ca 1) x.toNatClampNeg y.toNatClampNeg (defaultValue .long) x.toNatClampNeg = F at X' step
  have hTh : (T.setVm vm₁).heap = H := hT
  obtain ⟨f1, f2, -, -⟩ := Jvm.Free.Multi.fill_facts (T.setVm vm₁) (ca 3) (ca 1) x.toNatClampNeg y.toNatClampNeg (defaultValue .long) x.toNatClampNeg
  rw [hF, hTh] at f1 f2
  have hold : ∀ q : Nat, q < H.size → F.heap[q]? = H[q]? := fun q hq => by
    have := Jvm.Free.Multi.fill_old (T.setVm vm₁) (ca 3) (ca 1) x.toNatClampNeg y.toNatClampNeg (defaultValue .long) (a := q) (by rw [hTh]; exact hq) x.toNatClampNeg
    rw [hF, hTh] at this
    exact this
  have hrow : ∀ j : Nat, j < x.toNatClampNeg → F.heap[H.size + 1 + j]? = some (vp_cell (ca 1) (y.toNatClampNeg, .inr (.inl (fun _ => 0)))) := fun j hj => by
    have := Jvm.Free.Multi.fill_inner (T.setVm vm₁) (ca 3) (ca 1) x.toNatClampNeg y.toNatClampNeg (defaultValue .long) x.toNatClampNeg j hj
    rw [hF, hTh] at this
    rw [this, vp_cell_l, ← arrV_new]
    rfl
  rw [vr_outer] at f2
  cases hw
  obtain ⟨hP1, hD1⟩ := av_push (H1 := F.heap) (v := .inl (3, x.toNatClampNeg, .inr (.inr (.inr (.inr (fun i => if i < x.toNatClampNeg then some (w.length + 1 + i) else none))))) :: List.replicate x.toNatClampNeg (.inl (1, y.toNatClampNeg, .inr (.inl (fun _ => 0))))) hP hD (fun q h => K.2.2.2.2.2.2.1 q (Nat.le_trans hS.1 h)) hold (fun j c hj => by
    cases j with
    | zero =>
      cases hj
      show F.heap[H.size + 0]? = some (vp_cell (ca 3) _)
      rw [Nat.add_zero, f2]
      refine congrArg some ?_
      refine Eq.trans ?_ (vp_cell_q (ca 3) x.toNatClampNeg (fun j => (if j < x.toNatClampNeg then some (w.length + 1 + j) else none).map ad)).symm
      congr 1
      funext i
      by_cases hi : i < x.toNatClampNeg
      · rw [if_pos hi, if_pos hi]
        show Value.ref (H.size + 1 + i) = Value.ref (ad (w.length + 1 + i))
        have h9 := had (w.length + 1 + i) (by omega)
        have h8 : (H.size + 1 + i : Nat) = ad (w.length + 1 + i) := by omega
        exact congrArg Value.ref h8
      · rw [if_neg hi, if_neg hi]
        rfl
    | succ j =>
      have hj' : (List.replicate x.toNatClampNeg (Sum.inl (1, y.toNatClampNeg, Sum.inr (Sum.inl (fun _ => 0))) : va_E))[j]? = some c := hj
      rw [List.getElem?_replicate] at hj'
      split at hj'
      · rename_i hlt
        cases hj'
        show F.heap[H.size + (j + 1)]? = some (vp_cell (ca 1) _)
        rw [show H.size + (j + 1) = H.size + 1 + j by omega]
        exact hrow j hlt
      · cases hj') (fun j => by rw [hsz]; have := had (w.length + j) (by omega); omega)
  have hr : ad w.length = T.heap.size := by rw [hT, hsz]; exact had w.length (by omega)
  have kk2 := kk F.heap locs ls hP1 hD1 ⟨Nat.le_trans hS.1 (by omega), fun q g1 g2 => (hold q (Nat.lt_of_lt_of_le g1 hS.1)).trans (hS.2.1 q g1 g2), hS.2.2⟩ hL
  obtain ⟨t, a1, b1⟩ := kk2 F rfl X'
  refine ⟨t, step t ?_, b1⟩
  rw [← hr]
  exact a1
end ACT
