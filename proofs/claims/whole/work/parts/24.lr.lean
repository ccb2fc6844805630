/-! rules for the law's own body: the script (a raw address, .retAddr in abstract values), its helpers, public constructors, its end -/
section ALR
variable {l : Launch} {D : va_G} {cl : List vw_C} {ca : Nat → Nat} {Ns : List Cond} {tab : Nat → Int64}
variable {p : Program} {e : Env} {R : Room} {s : State} {m : MethodId} {args : Array Value} {below : List Frame} {meth : Method} {c : Code} {cells slots : Nat} {Q : State → Prop}
variable {A : Nat → Prop} {ad : Nat → Nat} {cc : ByteArray} {nL b n0 : Nat} {own : String} {Ts : List Cond}
variable {pc : Nat} {L L' : List (Option Value)} {st st0 : List Value} {w w' : List va_E}
def av_SX (s : State) (A : Nat → Prop) (sc Ln : Nat) (xs : Nat → Int32) : Prop := va_X sc Ln xs s s.heap ∧ sc < s.heap.size ∧ ¬ A sc
theorem av_aloadR (K : av_K p s m args meth c D cl ca A cc nL own Ts) {k0 : Fin 4} {i x : Nat} (hd : decode cc pc = .ok (.aload_n k0, 1)) (hi : (k0 : Nat) = i) (hl : L[i]? = some (some (.retAddr x))) (k : av_V p l e R s m args below meth c D cl A ad ca nL Q cells slots (pc + 1) L (.retAddr x :: st) w) : av_V p l e R s m args below meth c D cl A ad ca nL Q cells slots pc L st w := fun H locs ls hP hD hS hL => lv_aload_n K.1 K.2.1 hd hi (hL.2.2 i _ hl) (k H locs ls hP hD hS hL)
theorem av_slen (K : av_K p s m args meth c D cl ca A cc nL own Ts) {sc Ln : Nat} {xs : Nat → Int32} (S : av_SX s A sc Ln xs) (hd : decode cc pc = .ok (.arraylength, 1)) (k : av_V p l e R s m args below meth c D cl A ad ca nL Q cells slots (pc + 1) L (.int (Int32.ofNat Ln) :: st) w) : av_V p l e R s m args below meth c D cl A ad ca nL Q cells slots pc L (.retAddr sc :: st) w := fun H locs ls hP hD hS hL => va_slen K.1 K.2.1 S.1 S.2.1 S.2.2 hS hd (k H locs ls hP hD hS hL)
theorem av_sld (K : av_K p s m args meth c D cl ca A cc nL own Ts) {sc Ln : Nat} {xs : Nat → Int32} (S : av_SX s A sc Ln xs) {i : Int32} (hd : decode cc pc = .ok (.iaload, 1)) (hin : ¬ (i < 0 ∨ Ln ≤ i.toNatClampNeg)) (k : av_V p l e R s m args below meth c D cl A ad ca nL Q cells slots (pc + 1) L (.int (xs i.toNatClampNeg) :: st) w) : av_V p l e R s m args below meth c D cl A ad ca nL Q cells slots pc L (.int i :: .retAddr sc :: st) w := fun H locs ls hP hD hS hL => va_sld K.1 K.2.1 S.1 S.2.1 S.2.2 hS hin hd (k H locs ls hP hD hS hL)
theorem av_cH (K : av_K p s m args meth c D cl ca A cc nL own Ts) (G : av_G Ns tab A s s.heap) (X : av_X A s s.heap) (N : av_N s) {y : MethodName} {ws1 : List Cond} {rm : Room} {bytes : ByteArray} {maxL index n m1 n1 : Nat} {ret : Option FieldType} {hh : List (Nat × Nat × Nat × Nat)} {As : List Value} {post : Int32 → List va_E → Prop} (cal : av_Hi l D cl ca Ns tab y ws1 rm m1 n1 As w post) (cw : vx_CSW R s args own index y bytes maxL ret hh ws1 rm m1 n1 n)
    (hn : As.length = n) (hst : As.reverse ++ st = st0) (hroom : (st.map Value.category).sum ≤ 8) (hd : decode cc pc = .ok (.invokestatic index, 3)) (hf : cells + m1 ≤ R.cells ∧ slots + n1 ≤ R.slots)
    (k : ∀ r w', post r w' → av_V p l e R s m args below meth c D cl A ad ca nL Q (cells + m1) (slots + n1) (pc + 3) L (.int r :: st) w') : av_V p l e R s m args below meth c D cl A ad ca nL Q cells slots pc L st0 w := by
  intro H locs ls hP hD hS hL
  subst hst
  have hFc := av_sub K hD hS
  have hpx := av_preX K G X hP hD hS As
  have hpr : PreS s H (va_Pc (As.map (ax_v ad)) (av_PreH D cl ca Ns tab ad w H.size)) (As.map (ax_v ad)) := ⟨av_blindH, fun U hU hW => ⟨rfl, (hpx.2 U hU hW).2, N.to hW⟩⟩
  refine va_calli (vx_runSW (As := As.map (ax_v ad)) (rest := st.map (ax_v ad)) ⟨K.1, K.2.1, K.2.2.1, K.2.2.2.1, K.2.2.2.2.1⟩ (cal ad H.size) cw hpr rfl (by rw [List.length_map]; exact hn) hL.1 (by simp) (lv_room (by rw [List.map_map]; simpa [Function.comp_def, ax_v_cat] using hroom)) hd hf) hS (fun q _ h => hFc q h) hFc (fun r w' t H1 locs1 ht hvm hp hB hz1 hk1 hS1 => ?_)
  obtain ⟨hP1, hD1⟩ := hB
  rw [ht] at hP1
  exact k r w' hp H1 locs1 ls hP1 (hD1.weaken (fun _ q _ h => hFc q.1 h)) hS1 hL
/-- a public constructor -/
theorem av_cC (K : av_K p s m args meth c D cl ca A cc nL own Ts) (G : av_G Ns tab A s s.heap) (O : va_AOA .long s) (hs0 : s.heap.size = b + n0) (he : s.heap.size + cells = b + w.length) (had : ∀ k, n0 ≤ k → ad k = b + k) {y : MethodName} {ws1 : List Cond} {rm : Room} {bytes : ByteArray} {maxL index n q m1 n1 : Nat} {As : List Value} {post : List va_E → Prop} (cal : av_Nv l D cl ca Ns tab y ws1 rm m1 n1 (.ref q :: As) w post) (cw : CallB R s args own index y bytes maxL none ws1 rm m1 n1 n ∧ y.name = "<init>" ∧ (Cond.instanceMethod y).before args s = true)
    (hn : As.length = n) (hst : As.reverse ++ .ref q :: st = st0) (hroom : (st.map Value.category).sum ≤ 8) (hd : decode cc pc = .ok (.invokespecial index, 3)) (hf : cells + m1 ≤ R.cells ∧ slots + n1 ≤ R.slots)
    (k : ∀ w', post w' → av_V p l e R s m args below meth c D cl A ad ca nL Q (cells + m1) (slots + n1) (pc + 3) L st w') : av_V p l e R s m args below meth c D cl A ad ca nL Q cells slots pc L st0 w := by
  intro H locs ls hP hD hS hL T hT X
  subst hst
  have hsz := av_sz hs0 he had hP hS hT X
  have hFc := av_sub K hD hS
  have hpr := av_preN K G O hsz hP hD hS (.ref q :: As)
  refine va_callv (va_runI (As := As.map (ax_v ad)) (rest := st.map (ax_v ad)) ⟨K.1, K.2.1, K.2.2.1, K.2.2.2.1, K.2.2.2.2.1⟩ (cal ad b (fun k hk => had k (by omega))) cw hpr rfl (by rw [List.length_map]; exact hn) hL.1 (by simp [ax_v]) (lv_room (by rw [List.map_map]; simpa [Function.comp_def, ax_v_cat] using hroom)) hd hf) hS (fun q _ h => hFc q (by rw [hsz]; exact h)) (fun q h => hFc q (by rw [hsz]; exact h)) (fun w' t H1 locs1 ht hvm hp hB hz1 hk1 hS1 => ?_) T hT X
  obtain ⟨hP1, hD1⟩ := hB
  rw [ht] at hP1
  exact k w' hp H1 locs1 ls hP1 (hD1.weaken (fun _ q _ h => hFc q.1 (by rw [hsz]; exact h))) hS1 hL
end ALR
theorem tsw_15 {x : Int32} (h0 : ¬ x = 0) (h1 : ¬ x = 1) (h2 : ¬ x = 2) (h3 : ¬ x = 3) (h4 : ¬ x = 4) (h5 : ¬ x = 5) (h6 : ¬ x = 6) (h7 : ¬ x = 7) (h8 : ¬ x = 8) (h9 : ¬ x = 9) (h10 : ¬ x = 10) (h11 : ¬ x = 11) (h12 : ¬ x = 12) (h13 : ¬ x = 13) (h14 : ¬ x = 14) : x.toInt < 0 ∨ 14 < x.toInt := by
  rcases pk_ix x (n := 15) (by decide) with h | h | ⟨j, hj, rfl⟩
  · exact Or.inl (by rw [Int32.lt_iff_toInt_lt] at h; simpa using h)
  · refine Or.inr ?_
    rw [Int32.le_iff_toInt_le, nI_toInt (by decide)] at h
    omega
  · match j, hj with
    | 0, _ => exact absurd rfl h0
    | 1, _ => exact absurd rfl h1
    | 2, _ => exact absurd rfl h2
    | 3, _ => exact absurd rfl h3
    | 4, _ => exact absurd rfl h4
    | 5, _ => exact absurd rfl h5
    | 6, _ => exact absurd rfl h6
    | 7, _ => exact absurd rfl h7
    | 8, _ => exact absurd rfl h8
    | 9, _ => exact absurd rfl h9
    | 10, _ => exact absurd rfl h10
    | 11, _ => exact absurd rfl h11
    | 12, _ => exact absurd rfl h12
    | 13, _ => exact absurd rfl h13
    | 14, _ => exact absurd rfl h14
    | k + 15, h => exact absurd h (by omega)
