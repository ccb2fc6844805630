/-! System.arraycopy between long arrays -/
def hp_cp (w : List va_E) (q0 : Nat) (sp : Int32) (q1 : Nat) (dp n : Int32) : Option (List va_E) := match w[q0]?, w[q1]? with
  | some (.inl (c0, n0, .inr (.inl f))), some (.inl (c1, n1, .inr (.inl g))) => if c0 = 1 ∧ c1 = 1 ∧ ¬ sp < 0 ∧ ¬ dp < 0 ∧ ¬ n < 0 ∧ sp.toNatClampNeg + n.toNatClampNeg ≤ n0 ∧ dp.toNatClampNeg + n.toNatClampNeg ≤ n1 then some (w.set q1 (.inl (c1, n1, .inr (.inl (va_cpy f g sp.toNatClampNeg dp.toNatClampNeg n.toNatClampNeg))))) else none
  | _, _ => none
theorem hp_cp_of {w w' : List va_E} {q0 q1 : Nat} {sp dp n : Int32} (h : hp_cp w q0 sp q1 dp n = some w') : ∃ n0 n1 f g, w[q0]? = some (.inl (1, n0, .inr (.inl f))) ∧ w[q1]? = some (.inl (1, n1, .inr (.inl g))) ∧ ¬ sp < 0 ∧ ¬ dp < 0 ∧ ¬ n < 0 ∧ sp.toNatClampNeg + n.toNatClampNeg ≤ n0 ∧ dp.toNatClampNeg + n.toNatClampNeg ≤ n1 ∧ w.set q1 (.inl (1, n1, .inr (.inl (va_cpy f g sp.toNatClampNeg dp.toNatClampNeg n.toNatClampNeg)))) = w' := by
  unfold hp_cp at h
  split at h
  · rename_i c0 n0 f c1 n1 g h0 h1
    split at h
    · rename_i hc
      obtain ⟨hc0, hc1, r⟩ := hc
      subst hc0
      subst hc1
      exact ⟨n0, n1, f, g, h0, h1, r.1, r.2.1, r.2.2.1, r.2.2.2.1, r.2.2.2.2, Option.some.inj h⟩
    · cases h
  · cases h
section AY
variable {p : Program} {l : Launch} {e : Env} {R : Room} {s : State} {m : MethodId} {args : Array Value} {below : List Frame} {meth : Method} {c : Code} {cells slots : Nat} {Q : State → Prop}
variable {D : va_G} {cl : List vw_C} {ca : Nat → Nat} {A : Nat → Prop} {ad : Nat → Nat} {cc : ByteArray} {nL : Nat} {own : String} {Ts : List Cond}
variable {pc : Nat} {L L' : List (Option Value)} {st : List Value} {w w' : List va_E}
theorem av_cp (K : av_K p s m args meth c D cl ca A cc nL own Ts) {index q0 q1 : Nat} {sp dp n : Int32} (hl : Cond.methodLink own index arraycopyName ∈ Ts) (hn : Cond.native arraycopyName ∈ Ts) (hs : Cond.static arraycopyName ∈ Ts) (hi : Cond.initialized "java/lang/System" ∈ Ts) (hf : 1 ≤ R.frames) (hlo : (st.map Value.category).sum + (nativeFrameWords "java/lang/System" "arraycopy" 5 + 11) ≤ R.locals) (hd : decode cc pc = .ok (.invokestatic index, 3)) (h : hp_cp w q0 sp q1 dp n = some w') (k : av_V p l e R s m args below meth c D cl A ad ca nL Q cells slots (pc + 3) L st w') : av_V p l e R s m args below meth c D cl A ad ca nL Q cells slots pc L (.int n :: .int dp :: .ref q1 :: .int sp :: .ref q0 :: st) w := fun H locs ls hP hD hS hL => by
  obtain ⟨n0, n1, f, g, h0, h1, a1, a2, a3, a4, a5, hw⟩ := hp_cp_of h
  have e1 : (ax_W ad ca w).set q1 (ad q1, .inl (ca 1, n1, .inr (.inl (va_cpy f g sp.toNatClampNeg dp.toNatClampNeg n.toNatClampNeg)))) = ax_W ad ca w' := by
    rw [← hw, ← ax_W_set]; rfl
  refine va_copyl K.1 K.2.1 (K.2.2.1.trans hL.1.symm) K.2.2.2.1 (K.2.2.2.2.1 _ hl) (K.2.2.2.2.1 _ hn) (K.2.2.2.2.1 _ hs) (K.2.2.2.2.1 _ hi) K.2.2.2.2.2.1 hP hD hS q0 q1 1 1 (ax_W_at h0) (ax_W_at h1) rfl rfl rfl a1 a2 a3 a4 a5 (fun i _ => rfl) hf (by rw [List.map_map]; simpa [Function.comp_def, ax_v_cat] using hlo) hd (fun H1 locs1 hP1 hD1 hS1 => ?_)
  rw [e1] at hP1 hD1
  exact k H1 locs1 ls hP1 hD1 hS1 hL
end AY
theorem ml_cp : Cond.methodLink R_X 59 arraycopyName ∈ WS := ws_t (List.mem_of_getElem? (i := 559) (by decide +kernel)) (by decide +kernel)
theorem sm_cp : Cond.static arraycopyName ∈ WS := ws_t (List.mem_of_getElem? (i := 560) (by decide +kernel)) (by decide +kernel)
theorem nm_cp : Cond.native arraycopyName ∈ WS := ws_t (List.mem_of_getElem? (i := 561) (by decide +kernel)) (by decide +kernel)
theorem in_SY : Cond.initialized "java/lang/System" ∈ WS := ws_t (List.mem_of_getElem? (i := 18) (by decide +kernel)) (by decide +kernel)
