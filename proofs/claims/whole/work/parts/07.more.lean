/-! more rules: ldc_w, switches -/
def R_JI : String := "java/lang/Integer"
def R_JL : String := "java/lang/Long"
section AW
variable {p : Program} {l : Launch} {e : Env} {R : Room} {s : State} {m : MethodId} {args : Array Value} {below : List Frame} {meth : Method} {c : Code} {cells slots : Nat} {Q : State → Prop}
variable {D : va_G} {cl : List vw_C} {ca : Nat → Nat} {A : Nat → Prop} {ad : Nat → Nat} {cc : ByteArray} {nL : Nat} {own : String} {Ts : List Cond}
variable {pc : Nat} {L L' : List (Option Value)} {st : List Value} {w w' : List va_E}
theorem av_ldcw (K : av_K p s m args meth c D cl ca A cc nL own Ts) {index : Nat} {v : Int32} (hc : Cond.constant own index v ∈ Ts) (hd : decode cc pc = .ok (.ldc_w index, 3)) (k : av_V p l e R s m args below meth c D cl A ad ca nL Q cells slots (pc + 3) L (.int v :: st) w) : av_V p l e R s m args below meth c D cl A ad ca nL Q cells slots pc L st w := fun H locs ls hP hD hS hL => lv_ldcw K.1 K.2.1 K.2.2.2.1 (K.2.2.2.2.1 _ hc) hd (k H locs ls hP hD hS hL)
theorem av_tswI (K : av_K p s m args meth c D cl ca A cc nL own Ts) {dflt lo hi : Int} {offs : Array Int} {len : Nat} {x : Int32} {off : Int} {tgt : Nat} (hd : decode cc pc = .ok (.tableswitch dflt lo hi offs, len)) (h1 : ¬ x.toInt < lo) (h2 : ¬ hi < x.toInt) (ho : offs[(x.toInt - lo).toNat]? = some off) (ht : (pc : Int) + off = (tgt : Int)) (k : av_V p l e R s m args below meth c D cl A ad ca nL Q cells slots tgt L st w) : av_V p l e R s m args below meth c D cl A ad ca nL Q cells slots pc L (.int x :: st) w := fun H locs ls hP hD hS hL => lv_tableIn K.1 K.2.1 hd h1 h2 ho ht (k H locs ls hP hD hS hL)
theorem av_tswO (K : av_K p s m args meth c D cl ca A cc nL own Ts) {dflt lo hi : Int} {offs : Array Int} {len : Nat} {x : Int32} {tgt : Nat} (hd : decode cc pc = .ok (.tableswitch dflt lo hi offs, len)) (h : x.toInt < lo ∨ hi < x.toInt) (ht : (pc : Int) + dflt = (tgt : Int)) (k : av_V p l e R s m args below meth c D cl A ad ca nL Q cells slots tgt L st w) : av_V p l e R s m args below meth c D cl A ad ca nL Q cells slots pc L (.int x :: st) w := fun H locs ls hP hD hS hL => lv_tableOut K.1 K.2.1 hd h ht (k H locs ls hP hD hS hL)
end AW
theorem tsw_4 {x : Int32} (h0 : ¬ x = 0) (h1 : ¬ x = 1) (h2 : ¬ x = 2) (h3 : ¬ x = 3) : x.toInt < 0 ∨ 3 < x.toInt := by
  rcases pk_ix x (n := 4) (by decide) with h | h | ⟨j, hj, rfl⟩
  · exact Or.inl (by rw [Int32.lt_iff_toInt_lt] at h; simpa using h)
  · refine Or.inr ?_
    rw [Int32.le_iff_toInt_le, nI_toInt (by decide)] at h
    omega
  · match j, hj with
    | 0, _ => exact absurd rfl h0
    | 1, _ => exact absurd rfl h1
    | 2, _ => exact absurd rfl h2
    | 3, _ => exact absurd rfl h3
    | k + 4, h => exact absurd h (by omega)
