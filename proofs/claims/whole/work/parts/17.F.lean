def R_Fx : String := "FaultTreeDesk"
theorem xk_90 : Cond.classLink R_F 90 "java/lang/IllegalArgumentException" ∈ WS := ws_t (List.mem_of_getElem? (i := 200) (by decide +kernel)) (by decide +kernel)
theorem xi_90 : Cond.initialized "java/lang/IllegalArgumentException" ∈ WS := ws_t (List.mem_of_getElem? (i := 12) (by decide +kernel)) (by decide +kernel)
theorem x4_90 : Bundle.fit "java/lang/IllegalArgumentException" = true ∧ ∀ n ∈ EXU, Bundle.fit n = true := by decide +kernel
theorem x1_94 : ∀ w ∈ (vx_atS R_F 94 "java/lang/IllegalArgumentException" EXU).filter goodWord, w ∈ WS := fun w hw => List.mem_filter.mpr ⟨(by decide +kernel : ∀ w ∈ (vx_atS R_F 94 "java/lang/IllegalArgumentException" EXU).filter goodWord, w ∈ lw_tbl) w hw, (List.mem_filter.mp hw).2⟩
theorem x2_94 : ∀ w ∈ (vx_atS R_F 94 "java/lang/IllegalArgumentException" EXU).filter (fun w => !goodWord w), w ∈ Cond.castable "java/lang/IllegalArgumentException" "java/lang/IllegalArgumentException" :: DCL.map Cond.declares := by decide +kernel
theorem x3_94 : ∀ w ∈ Cond.classLink R_F 90 "java/lang/IllegalArgumentException" :: Cond.initialized "java/lang/IllegalArgumentException" :: vx_atS R_F 94 "java/lang/IllegalArgumentException" EXU, vx_ot w = true := by decide +kernel
theorem xk_69 : Cond.classLink R_F 69 "java/lang/IllegalStateException" ∈ WS := ws_t (List.mem_of_getElem? (i := 269) (by decide +kernel)) (by decide +kernel)
theorem xi_69 : Cond.initialized "java/lang/IllegalStateException" ∈ WS := ws_t (List.mem_of_getElem? (i := 13) (by decide +kernel)) (by decide +kernel)
theorem x4_69 : Bundle.fit "java/lang/IllegalStateException" = true ∧ ∀ n ∈ EXU, Bundle.fit n = true := by decide +kernel
theorem x1_73 : ∀ w ∈ (vx_atS R_F 73 "java/lang/IllegalStateException" EXU).filter goodWord, w ∈ WS := fun w hw => List.mem_filter.mpr ⟨(by decide +kernel : ∀ w ∈ (vx_atS R_F 73 "java/lang/IllegalStateException" EXU).filter goodWord, w ∈ lw_tbl) w hw, (List.mem_filter.mp hw).2⟩
theorem x2_73 : ∀ w ∈ (vx_atS R_F 73 "java/lang/IllegalStateException" EXU).filter (fun w => !goodWord w), w ∈ Cond.castable "java/lang/IllegalStateException" "java/lang/IllegalStateException" :: DCL.map Cond.declares := by decide +kernel
theorem x3_73 : ∀ w ∈ Cond.classLink R_F 69 "java/lang/IllegalStateException" :: Cond.initialized "java/lang/IllegalStateException" :: vx_atS R_F 73 "java/lang/IllegalStateException" EXU, vx_ot w = true := by decide +kernel
theorem xk_178 : Cond.classLink R_F 178 "java/lang/IndexOutOfBoundsException" ∈ WS := ws_t (List.mem_of_getElem? (i := 576) (by decide +kernel)) (by decide +kernel)
theorem xi_178 : Cond.initialized "java/lang/IndexOutOfBoundsException" ∈ WS := ws_t (List.mem_of_getElem? (i := 19) (by decide +kernel)) (by decide +kernel)
theorem x4_178 : Bundle.fit "java/lang/IndexOutOfBoundsException" = true ∧ ∀ n ∈ EXU, Bundle.fit n = true := by decide +kernel
theorem x1_182 : ∀ w ∈ (vx_atS R_F 182 "java/lang/IndexOutOfBoundsException" EXU).filter goodWord, w ∈ WS := fun w hw => List.mem_filter.mpr ⟨(by decide +kernel : ∀ w ∈ (vx_atS R_F 182 "java/lang/IndexOutOfBoundsException" EXU).filter goodWord, w ∈ lw_tbl) w hw, (List.mem_filter.mp hw).2⟩
theorem x2_182 : ∀ w ∈ (vx_atS R_F 182 "java/lang/IndexOutOfBoundsException" EXU).filter (fun w => !goodWord w), w ∈ Cond.castable "java/lang/IndexOutOfBoundsException" "java/lang/IndexOutOfBoundsException" :: DCL.map Cond.declares := by decide +kernel
theorem x3_182 : ∀ w ∈ Cond.classLink R_F 178 "java/lang/IndexOutOfBoundsException" :: Cond.initialized "java/lang/IndexOutOfBoundsException" :: vx_atS R_F 182 "java/lang/IndexOutOfBoundsException" EXU, vx_ot w = true := by decide +kernel
theorem xk_132 : Cond.classLink R_F 132 "java/lang/UnsupportedOperationException" ∈ WS := ws_t (List.mem_of_getElem? (i := 376) (by decide +kernel)) (by decide +kernel)
theorem xi_132 : Cond.initialized "java/lang/UnsupportedOperationException" ∈ WS := ws_t (List.mem_of_getElem? (i := 15) (by decide +kernel)) (by decide +kernel)
theorem x4_132 : Bundle.fit "java/lang/UnsupportedOperationException" = true ∧ ∀ n ∈ EXU, Bundle.fit n = true := by decide +kernel
theorem x1_136 : ∀ w ∈ (vx_atS R_F 136 "java/lang/UnsupportedOperationException" EXU).filter goodWord, w ∈ WS := fun w hw => List.mem_filter.mpr ⟨(by decide +kernel : ∀ w ∈ (vx_atS R_F 136 "java/lang/UnsupportedOperationException" EXU).filter goodWord, w ∈ lw_tbl) w hw, (List.mem_filter.mp hw).2⟩
theorem x2_136 : ∀ w ∈ (vx_atS R_F 136 "java/lang/UnsupportedOperationException" EXU).filter (fun w => !goodWord w), w ∈ Cond.castable "java/lang/UnsupportedOperationException" "java/lang/UnsupportedOperationException" :: DCL.map Cond.declares := by decide +kernel
theorem x3_136 : ∀ w ∈ Cond.classLink R_F 132 "java/lang/UnsupportedOperationException" :: Cond.initialized "java/lang/UnsupportedOperationException" :: vx_atS R_F 136 "java/lang/UnsupportedOperationException" EXU, vx_ot w = true := by decide +kernel
-- FaultTreeDesk.freshenTruth()V
theorem d_F_freshenTruth_0 : decode b_F_freshenTruth 0 = .ok (.aload_n 0, 1) := by decide +kernel
theorem d_F_freshenTruth_1 : decode b_F_freshenTruth 1 = .ok (.getfield 55, 3) := by decide +kernel
theorem d_F_freshenTruth_4 : decode b_F_freshenTruth 4 = .ok (.ifCond .ne 28, 3) := by decide +kernel
theorem d_F_freshenTruth_7 : decode b_F_freshenTruth 7 = .ok (.aload_n 0, 1) := by decide +kernel
theorem d_F_freshenTruth_8 : decode b_F_freshenTruth 8 = .ok (.getfield 26, 3) := by decide +kernel
theorem d_F_freshenTruth_11 : decode b_F_freshenTruth 11 = .ok (.aload_n 0, 1) := by decide +kernel
theorem d_F_freshenTruth_12 : decode b_F_freshenTruth 12 = .ok (.getfield 12, 3) := by decide +kernel
theorem d_F_freshenTruth_15 : decode b_F_freshenTruth 15 = .ok (.aload_n 0, 1) := by decide +kernel
theorem d_F_freshenTruth_16 : decode b_F_freshenTruth 16 = .ok (.getfield 19, 3) := by decide +kernel
theorem d_F_freshenTruth_19 : decode b_F_freshenTruth 19 = .ok (.aload_n 0, 1) := by decide +kernel
theorem d_F_freshenTruth_20 : decode b_F_freshenTruth 20 = .ok (.getfield 51, 3) := by decide +kernel
theorem d_F_freshenTruth_23 : decode b_F_freshenTruth 23 = .ok (.iconst (-1), 1) := by decide +kernel
theorem d_F_freshenTruth_24 : decode b_F_freshenTruth 24 = .ok (.invokevirtual 159, 3) := by decide +kernel
theorem d_F_freshenTruth_27 : decode b_F_freshenTruth 27 = .ok (.aload_n 0, 1) := by decide +kernel
theorem d_F_freshenTruth_28 : decode b_F_freshenTruth 28 = .ok (.iconst 1, 1) := by decide +kernel
theorem d_F_freshenTruth_29 : decode b_F_freshenTruth 29 = .ok (.putfield 55, 3) := by decide +kernel
theorem d_F_freshenTruth_32 : decode b_F_freshenTruth 32 = .ok (.return_, 1) := by decide +kernel
def rm_F_freshenTruth : Room := { frames := 4, cells := 0, slots := 0, locals := 111 }
def f_F_freshenTruth_32 (fu : Nat) (w : List va_E) : Option (List va_E) := (some w)
def f_F_freshenTruth (fu : Nat) (v0 : Nat) (w : List va_E) : Option (List va_E) := ((hp_gi w v0 6 7).bind fun x1 => (if x1 = 0 then ((hp_gr w v0 6 2).bind fun q2 => ((hp_gr w v0 6 0).bind fun q3 => ((hp_gr w v0 6 1).bind fun q4 => ((hp_gi w v0 6 6).bind fun x5 => ((hp_is w q2 5).bind fun _ => ((f_T_fill fu q2 q3 q4 x5 (-1 : Int32) w).bind fun r6 => ((hp_pz r6 v0 6 7 (1 : Int32)).bind fun w7 => (f_F_freshenTruth_32 fu w7)))))))) else (f_F_freshenTruth_32 fu w)))
section
variable {p : Program} {l : Launch} {e : Env} {s : State} {m : MethodId} {args : Array Value} {below : List Frame} {meth : Method} {c : Code} {D : va_G} {ca : Nat → Nat} {A : Nat → Prop} {ad : Nat → Nat}
set_option maxRecDepth 100000 in
set_option maxHeartbeats 4000000 in
theorem v_F_freshenTruth_32 (K : av_K p s m args meth c D cl8 ca A b_F_freshenTruth 1 R_F WS) (G : av_G NS tabON A s s.heap) (hr : meth.sig.returnType = none) (fu : Nat) {r : List va_E} (w : List va_E) (h : f_F_freshenTruth_32 fu w = some r) : av_VV p l e rm_F_freshenTruth s m args below meth c D cl8 A ad ca 1 r 32 [none] [] w := by
  unfold f_F_freshenTruth_32 at h
  obtain rfl := Option.some.inj h
  exact av_return K hr d_F_freshenTruth_32 rfl
set_option maxRecDepth 100000 in
set_option maxHeartbeats 4000000 in
theorem v_F_freshenTruth (K : av_K p s m args meth c D cl8 ca A b_F_freshenTruth 1 R_F WS) (G : av_G NS tabON A s s.heap) (hr : meth.sig.returnType = none) (fu : Nat) {r : List va_E} (v0 : Nat) (w : List va_E) (h : f_F_freshenTruth fu v0 w = some r) : av_VV p l e rm_F_freshenTruth s m args below meth c D cl8 A ad ca 1 r 0 [some (.ref v0)] [] w := by
  unfold f_F_freshenTruth at h
  refine av_aload_n K d_F_freshenTruth_0 rfl rfl ?_
  obtain ⟨x1, ex1, h⟩ := hp_bd h
  refine hv_gi K fl_F_55 d_F_freshenTruth_1 ex1 ?_
  refine av_if_ne (tgt := 32) K d_F_freshenTruth_4 rfl (fun hc => ?_) (fun hc => ?_)
  · rw [if_neg hc] at h
    refine hv_fg (L' := [none]) [0] rfl ?_
    exact v_F_freshenTruth_32 K G hr fu _ h
  · rw [if_pos hc] at h
    refine av_aload_n K d_F_freshenTruth_7 rfl rfl ?_
    obtain ⟨q2, eq2, h⟩ := hp_bd h
    refine hv_gr K fl_F_26 d_F_freshenTruth_8 eq2 ?_
    refine av_aload_n K d_F_freshenTruth_11 rfl rfl ?_
    obtain ⟨q3, eq3, h⟩ := hp_bd h
    refine hv_gr K fl_F_12 d_F_freshenTruth_12 eq3 ?_
    refine av_aload_n K d_F_freshenTruth_15 rfl rfl ?_
    obtain ⟨q4, eq4, h⟩ := hp_bd h
    refine hv_gr K fl_F_19 d_F_freshenTruth_16 eq4 ?_
    refine av_aload_n K d_F_freshenTruth_19 rfl rfl ?_
    obtain ⟨x5, ex5, h⟩ := hp_bd h
    refine hv_gi K fl_F_51 d_F_freshenTruth_20 ex5 ?_
    refine av_iconst (v := (-1 : Int32)) K d_F_freshenTruth_23 (by decide) ?_
    obtain ⟨_, eo24, h⟩ := hp_bd h
    obtain ⟨r6, er6, h⟩ := hp_bd h
    obtain ⟨fs24, ho24⟩ := hp_is_of eo24
    refine av_cVv K G (c_T_fill (tab := tabON) er6) (cwV 4 K.2.2.2.2.1 (gV ml_F_159 im_T_fill se_T_fill in_T co_T_fill) rfl rfl rfl cd_T_fill ⟨Nat.le_of_ble_eq_true rfl, Nat.le_of_ble_eq_true rfl⟩) rfl ho24 rfl rfl (Nat.le_of_ble_eq_true rfl) d_F_freshenTruth_24 ⟨Nat.zero_le _, Nat.zero_le _⟩ (fun u9 h9 => ?_)
    subst h9
    refine av_aload_n K d_F_freshenTruth_27 rfl rfl ?_
    refine av_iconst (v := (1 : Int32)) K d_F_freshenTruth_28 (by decide) ?_
    obtain ⟨w7, ew7, h⟩ := hp_bd h
    refine hv_pz K fp_F_55 d_F_freshenTruth_29 ew7 ?_
    refine hv_fg (L' := [none]) [0] rfl ?_
    exact v_F_freshenTruth_32 K G hr fu _ h
end
set_option maxRecDepth 100000 in
theorem c_F_freshenTruth {l : Launch} {D : va_G} {ca : Nat → Nat} {tab : Nat → Int64} {fu : Nat} {v0 : Nat} {w : List va_E} {r : List va_E} (h : f_F_freshenTruth fu v0 w = some r) : av_Cv l D cl8 ca NS tabON y_F_freshenTruth w_F_freshenTruth rm_F_freshenTruth [.ref v0] w (fun u => u = r) :=
  av_inV (cc := b_F_freshenTruth) (nL := 1) (by decide +kernel) rfl (Nat.le_of_ble_eq_true rfl) (fun p e s m args below meth c A ad K G hr => v_F_freshenTruth K G hr fu v0 w h)

-- FaultTreeDesk.forgetAnswers()V
theorem d_F_forgetAnswers_0 : decode b_F_forgetAnswers 0 = .ok (.aload_n 0, 1) := by decide +kernel
theorem d_F_forgetAnswers_1 : decode b_F_forgetAnswers 1 = .ok (.iconst 0, 1) := by decide +kernel
theorem d_F_forgetAnswers_2 : decode b_F_forgetAnswers 2 = .ok (.putfield 55, 3) := by decide +kernel
theorem d_F_forgetAnswers_5 : decode b_F_forgetAnswers 5 = .ok (.aload_n 0, 1) := by decide +kernel
theorem d_F_forgetAnswers_6 : decode b_F_forgetAnswers 6 = .ok (.iconst 0, 1) := by decide +kernel
theorem d_F_forgetAnswers_7 : decode b_F_forgetAnswers 7 = .ok (.putfield 59, 3) := by decide +kernel
theorem d_F_forgetAnswers_10 : decode b_F_forgetAnswers 10 = .ok (.return_, 1) := by decide +kernel
def rm_F_forgetAnswers : Room := { frames := 0, cells := 0, slots := 0, locals := 0 }
def f_F_forgetAnswers (fu : Nat) (v0 : Nat) (w : List va_E) : Option (List va_E) := ((hp_pz w v0 6 7 (0 : Int32)).bind fun w1 => ((hp_pz w1 v0 6 8 (0 : Int32)).bind fun w2 => (some w2)))
section
variable {p : Program} {l : Launch} {e : Env} {s : State} {m : MethodId} {args : Array Value} {below : List Frame} {meth : Method} {c : Code} {D : va_G} {ca : Nat → Nat} {A : Nat → Prop} {ad : Nat → Nat}
set_option maxRecDepth 100000 in
set_option maxHeartbeats 4000000 in
theorem v_F_forgetAnswers (K : av_K p s m args meth c D cl8 ca A b_F_forgetAnswers 1 R_F WS) (G : av_G NS tabON A s s.heap) (hr : meth.sig.returnType = none) (fu : Nat) {r : List va_E} (v0 : Nat) (w : List va_E) (h : f_F_forgetAnswers fu v0 w = some r) : av_VV p l e rm_F_forgetAnswers s m args below meth c D cl8 A ad ca 1 r 0 [some (.ref v0)] [] w := by
  unfold f_F_forgetAnswers at h
  refine av_aload_n K d_F_forgetAnswers_0 rfl rfl ?_
  refine av_iconst (v := (0 : Int32)) K d_F_forgetAnswers_1 (by decide) ?_
  obtain ⟨w1, ew1, h⟩ := hp_bd h
  refine hv_pz K fp_F_55 d_F_forgetAnswers_2 ew1 ?_
  refine av_aload_n K d_F_forgetAnswers_5 rfl rfl ?_
  refine av_iconst (v := (0 : Int32)) K d_F_forgetAnswers_6 (by decide) ?_
  obtain ⟨w2, ew2, h⟩ := hp_bd h
  refine hv_pz K fp_F_59 d_F_forgetAnswers_7 ew2 ?_
  obtain rfl := Option.some.inj h
  exact av_return K hr d_F_forgetAnswers_10 rfl
end
set_option maxRecDepth 100000 in
theorem c_F_forgetAnswers {l : Launch} {D : va_G} {ca : Nat → Nat} {tab : Nat → Int64} {fu : Nat} {v0 : Nat} {w : List va_E} {r : List va_E} (h : f_F_forgetAnswers fu v0 w = some r) : av_Cv l D cl8 ca NS tabON y_F_forgetAnswers w_F_forgetAnswers rm_F_forgetAnswers [.ref v0] w (fun u => u = r) :=
  av_inV (cc := b_F_forgetAnswers) (nL := 1) (by decide +kernel) rfl (Nat.le_of_ble_eq_true rfl) (fun p e s m args below meth c A ad K G hr => v_F_forgetAnswers K G hr fu v0 w h)

-- FaultTreeDesk.needChance(I)V
theorem d_F_needChance_0 : decode b_F_needChance 0 = .ok (.iload_n 1, 1) := by decide +kernel
theorem d_F_needChance_1 : decode b_F_needChance 1 = .ok (.ifCond .lt 9, 3) := by decide +kernel
theorem d_F_needChance_4 : decode b_F_needChance 4 = .ok (.iload_n 1, 1) := by decide +kernel
theorem d_F_needChance_5 : decode b_F_needChance 5 = .ok (.bipush 16, 2) := by decide +kernel
theorem d_F_needChance_7 : decode b_F_needChance 7 = .ok (.if_icmp .le 13, 3) := by decide +kernel
theorem d_F_needChance_10 : decode b_F_needChance 10 = .ok (.new 90, 3) := by decide +kernel
theorem d_F_needChance_13 : decode b_F_needChance 13 = .ok (.dup, 1) := by decide +kernel
theorem d_F_needChance_14 : decode b_F_needChance 14 = .ok (.ldc 195, 2) := by decide +kernel
theorem d_F_needChance_16 : decode b_F_needChance 16 = .ok (.invokespecial 94, 3) := by decide +kernel
theorem d_F_needChance_19 : decode b_F_needChance 19 = .ok (.athrow, 1) := by decide +kernel
theorem d_F_needChance_20 : decode b_F_needChance 20 = .ok (.return_, 1) := by decide +kernel
def rm_F_needChance : Room := { frames := 6, cells := 1, slots := 6, locals := 110 }
def f_F_needChance_10 (fu : Nat) (w : List va_E) : Option ((String ⊕ Unit) × List va_E) := (some (Sum.inl "java/lang/IllegalArgumentException", w))
def f_F_needChance (fu : Nat) (v0 : Nat) (v1 : Int32) (w : List va_E) : Option ((String ⊕ Unit) × List va_E) := (if v1 < 0 then (f_F_needChance_10 fu w) else (if v1 ≤ (16 : Int32) then (some (Sum.inr (), w)) else (f_F_needChance_10 fu w)))
section
variable {p : Program} {l : Launch} {e : Env} {s : State} {m : MethodId} {args : Array Value} {below : List Frame} {meth : Method} {c : Code} {D : va_G} {ca : Nat → Nat} {A : Nat → Prop} {ad : Nat → Nat}
set_option maxRecDepth 100000 in
set_option maxHeartbeats 4000000 in
theorem v_F_needChance_10 (K : av_K p s m args meth c D cl8 ca A b_F_needChance 2 R_F WS) (G : av_G NS tabON A s s.heap) (X : av_X A s s.heap) (hx : ∀ x ∈ c.exceptionTable.toList, False) (hl : l.stackTraces = false) (hr : meth.sig.returnType = none) (fu : Nat) {r : (String ⊕ Unit) × List va_E} (w : List va_E) (h : f_F_needChance_10 fu w = some r) : av_XVV p l e rm_F_needChance s m args below meth c D cl8 A ad ca 2 1 6 r 0 0 10 [none, none] [] w := by
  unfold f_F_needChance_10 at h
  obtain rfl := Option.some.inj h
  exact av_throw K X hx hl rfl (by decide) (text := "no such chance") (by decide) xk_90 xi_90 x1_94 x2_94 x3_94 x4_90 d_F_needChance_10 d_F_needChance_13 d_F_needChance_14 d_F_needChance_16 d_F_needChance_19 (Nat.le_of_ble_eq_true rfl) (Nat.le_of_ble_eq_true rfl) (Nat.le_of_ble_eq_true rfl) (Nat.le_of_ble_eq_true rfl) (Nat.le_of_ble_eq_true rfl) (Nat.le_of_ble_eq_true rfl) rfl
set_option maxRecDepth 100000 in
set_option maxHeartbeats 4000000 in
theorem v_F_needChance (K : av_K p s m args meth c D cl8 ca A b_F_needChance 2 R_F WS) (G : av_G NS tabON A s s.heap) (X : av_X A s s.heap) (hx : ∀ x ∈ c.exceptionTable.toList, False) (hl : l.stackTraces = false) (hr : meth.sig.returnType = none) (fu : Nat) {r : (String ⊕ Unit) × List va_E} (v0 : Nat) (v1 : Int32) (w : List va_E) (h : f_F_needChance fu v0 v1 w = some r) : av_XVV p l e rm_F_needChance s m args below meth c D cl8 A ad ca 2 1 6 r 0 0 0 [some (.ref v0), some (.int v1)] [] w := by
  unfold f_F_needChance at h
  refine av_iload_n K d_F_needChance_0 rfl rfl ?_
  refine av_if_lt (tgt := 10) K d_F_needChance_1 rfl (fun hc => ?_) (fun hc => ?_)
  · rw [if_pos hc] at h
    refine av_wd (k := 0) (n := 0) (Nat.le_of_ble_eq_true rfl) (Nat.le_of_ble_eq_true rfl) ?_
    refine hv_fg (L' := [none, none]) [0, 1] rfl ?_
    exact v_F_needChance_10 K G X hx hl hr fu _ h
  · rw [if_neg hc] at h
    refine av_iload_n K d_F_needChance_4 rfl rfl ?_
    refine av_bipush (v := (16 : Int32)) K d_F_needChance_5 (by decide) ?_
    refine av_icmp_le (tgt := 20) K d_F_needChance_7 rfl (fun hc => ?_) (fun hc => ?_)
    · rw [if_pos hc] at h
      obtain rfl := Option.some.inj h
      exact av_xret (av_return K hr d_F_needChance_20 rfl) (Nat.le_of_ble_eq_true rfl) (Nat.le_of_ble_eq_true rfl)
    · rw [if_neg hc] at h
      refine av_wd (k := 0) (n := 0) (Nat.le_of_ble_eq_true rfl) (Nat.le_of_ble_eq_true rfl) ?_
      refine hv_fg (L' := [none, none]) [0, 1] rfl ?_
      exact v_F_needChance_10 K G X hx hl hr fu _ h
end
set_option maxRecDepth 100000 in
theorem c_F_needChance {l : Launch} {D : va_G} {ca : Nat → Nat} (hl : l.stackTraces = false) {fu : Nat} {v0 : Nat} {v1 : Int32} {w : List va_E} {r : (String ⊕ Unit) × List va_E} (h : f_F_needChance fu v0 v1 w = some r) : av_Xv l D cl8 ca NS tabON y_F_needChance w_F_needChance rm_F_needChance 1 6 [.ref v0, .int v1] w (fun u => (Sum.inr (), u) = r) (fun E u => (Sum.inl E, u) = r) :=
  av_inXV (cc := b_F_needChance) (nL := 2) (by decide +kernel) rfl (Nat.le_of_ble_eq_true rfl) (fun p e s m args below meth c A ad K G X hx hr => v_F_needChance K G X hx hl hr fu v0 v1 w h)

-- FaultTreeDesk.needEvent(I)V
theorem d_F_needEvent_0 : decode b_F_needEvent 0 = .ok (.aload_n 0, 1) := by decide +kernel
theorem d_F_needEvent_1 : decode b_F_needEvent 1 = .ok (.getfield 12, 3) := by decide +kernel
theorem d_F_needEvent_4 : decode b_F_needEvent 4 = .ok (.iload_n 1, 1) := by decide +kernel
theorem d_F_needEvent_5 : decode b_F_needEvent 5 = .ok (.invokevirtual 111, 3) := by decide +kernel
theorem d_F_needEvent_8 : decode b_F_needEvent 8 = .ok (.ifCond .ne 13, 3) := by decide +kernel
theorem d_F_needEvent_11 : decode b_F_needEvent 11 = .ok (.new 90, 3) := by decide +kernel
theorem d_F_needEvent_14 : decode b_F_needEvent 14 = .ok (.dup, 1) := by decide +kernel
theorem d_F_needEvent_15 : decode b_F_needEvent 15 = .ok (.ldc 197, 2) := by decide +kernel
theorem d_F_needEvent_17 : decode b_F_needEvent 17 = .ok (.invokespecial 94, 3) := by decide +kernel
theorem d_F_needEvent_20 : decode b_F_needEvent 20 = .ok (.athrow, 1) := by decide +kernel
theorem d_F_needEvent_21 : decode b_F_needEvent 21 = .ok (.return_, 1) := by decide +kernel
def rm_F_needEvent : Room := { frames := 6, cells := 1, slots := 6, locals := 110 }
def f_F_needEvent (fu : Nat) (v0 : Nat) (v1 : Int32) (w : List va_E) : Option ((String ⊕ Unit) × List va_E) := ((hp_gr w v0 6 0).bind fun q1 => ((hp_is w q1 1).bind fun _ => ((f_E_has fu q1 v1 w).bind fun r2 => (if r2.1 = 0 then (some (Sum.inl "java/lang/IllegalArgumentException", r2.2)) else (some (Sum.inr (), r2.2))))))
section
variable {p : Program} {l : Launch} {e : Env} {s : State} {m : MethodId} {args : Array Value} {below : List Frame} {meth : Method} {c : Code} {D : va_G} {ca : Nat → Nat} {A : Nat → Prop} {ad : Nat → Nat}
set_option maxRecDepth 100000 in
set_option maxHeartbeats 4000000 in
theorem v_F_needEvent (K : av_K p s m args meth c D cl8 ca A b_F_needEvent 2 R_F WS) (G : av_G NS tabON A s s.heap) (X : av_X A s s.heap) (hx : ∀ x ∈ c.exceptionTable.toList, False) (hl : l.stackTraces = false) (hr : meth.sig.returnType = none) (fu : Nat) {r : (String ⊕ Unit) × List va_E} (v0 : Nat) (v1 : Int32) (w : List va_E) (h : f_F_needEvent fu v0 v1 w = some r) : av_XVV p l e rm_F_needEvent s m args below meth c D cl8 A ad ca 2 1 6 r 0 0 0 [some (.ref v0), some (.int v1)] [] w := by
  unfold f_F_needEvent at h
  refine av_aload_n K d_F_needEvent_0 rfl rfl ?_
  obtain ⟨q1, eq1, h⟩ := hp_bd h
  refine hv_gr K fl_F_12 d_F_needEvent_1 eq1 ?_
  refine av_iload_n K d_F_needEvent_4 rfl rfl ?_
  obtain ⟨_, eo5, h⟩ := hp_bd h
  obtain ⟨r2, er2, h⟩ := hp_bd h
  obtain ⟨fs5, ho5⟩ := hp_is_of eo5
  refine av_cVi K G (c_E_has (tab := tabON) er2) (cwV 1 K.2.2.2.2.1 (gV ml_F_111 im_E_has se_E_has in_E co_E_has) rfl rfl rfl cd_E_has ⟨Nat.le_of_ble_eq_true rfl, Nat.le_of_ble_eq_true rfl⟩) rfl ho5 rfl rfl (Nat.le_of_ble_eq_true rfl) d_F_needEvent_5 ⟨Nat.le_of_ble_eq_true rfl, Nat.le_of_ble_eq_true rfl⟩ (fun a9 u9 h9 => ?_)
  obtain ⟨rfl, rfl⟩ : a9 = r2.1 ∧ u9 = r2.2 := ⟨congrArg Prod.fst h9, congrArg Prod.snd h9⟩
  refine av_if_ne (tgt := 21) K d_F_needEvent_8 rfl (fun hc => ?_) (fun hc => ?_)
  · rw [if_neg hc] at h
    obtain rfl := Option.some.inj h
    exact av_xret (av_return K hr d_F_needEvent_21 rfl) (Nat.le_of_ble_eq_true rfl) (Nat.le_of_ble_eq_true rfl)
  · rw [if_pos hc] at h
    obtain rfl := Option.some.inj h
    exact av_throw K X hx hl rfl (by decide) (text := "no such event") (by decide) xk_90 xi_90 x1_94 x2_94 x3_94 x4_90 d_F_needEvent_11 d_F_needEvent_14 d_F_needEvent_15 d_F_needEvent_17 d_F_needEvent_20 (Nat.le_of_ble_eq_true rfl) (Nat.le_of_ble_eq_true rfl) (Nat.le_of_ble_eq_true rfl) (Nat.le_of_ble_eq_true rfl) (Nat.le_of_ble_eq_true rfl) (Nat.le_of_ble_eq_true rfl) rfl
end
set_option maxRecDepth 100000 in
theorem c_F_needEvent {l : Launch} {D : va_G} {ca : Nat → Nat} (hl : l.stackTraces = false) {fu : Nat} {v0 : Nat} {v1 : Int32} {w : List va_E} {r : (String ⊕ Unit) × List va_E} (h : f_F_needEvent fu v0 v1 w = some r) : av_Xv l D cl8 ca NS tabON y_F_needEvent w_F_needEvent rm_F_needEvent 1 6 [.ref v0, .int v1] w (fun u => (Sum.inr (), u) = r) (fun E u => (Sum.inl E, u) = r) :=
  av_inXV (cc := b_F_needEvent) (nL := 2) (by decide +kernel) rfl (Nat.le_of_ble_eq_true rfl) (fun p e s m args below meth c A ad K G X hx hr => v_F_needEvent K G X hx hl hr fu v0 v1 w h)

-- FaultTreeDesk.needGate(I)V
theorem d_F_needGate_0 : decode b_F_needGate 0 = .ok (.aload_n 0, 1) := by decide +kernel
theorem d_F_needGate_1 : decode b_F_needGate 1 = .ok (.getfield 19, 3) := by decide +kernel
theorem d_F_needGate_4 : decode b_F_needGate 4 = .ok (.iload_n 1, 1) := by decide +kernel
theorem d_F_needGate_5 : decode b_F_needGate 5 = .ok (.invokevirtual 199, 3) := by decide +kernel
theorem d_F_needGate_8 : decode b_F_needGate 8 = .ok (.ifCond .ne 13, 3) := by decide +kernel
theorem d_F_needGate_11 : decode b_F_needGate 11 = .ok (.new 90, 3) := by decide +kernel
theorem d_F_needGate_14 : decode b_F_needGate 14 = .ok (.dup, 1) := by decide +kernel
theorem d_F_needGate_15 : decode b_F_needGate 15 = .ok (.ldc 200, 2) := by decide +kernel
theorem d_F_needGate_17 : decode b_F_needGate 17 = .ok (.invokespecial 94, 3) := by decide +kernel
theorem d_F_needGate_20 : decode b_F_needGate 20 = .ok (.athrow, 1) := by decide +kernel
theorem d_F_needGate_21 : decode b_F_needGate 21 = .ok (.return_, 1) := by decide +kernel
def rm_F_needGate : Room := { frames := 6, cells := 1, slots := 6, locals := 110 }
def f_F_needGate (fu : Nat) (v0 : Nat) (v1 : Int32) (w : List va_E) : Option ((String ⊕ Unit) × List va_E) := ((hp_gr w v0 6 1).bind fun q1 => ((hp_is w q1 2).bind fun _ => ((f_G_has fu q1 v1 w).bind fun r2 => (if r2.1 = 0 then (some (Sum.inl "java/lang/IllegalArgumentException", r2.2)) else (some (Sum.inr (), r2.2))))))
section
variable {p : Program} {l : Launch} {e : Env} {s : State} {m : MethodId} {args : Array Value} {below : List Frame} {meth : Method} {c : Code} {D : va_G} {ca : Nat → Nat} {A : Nat → Prop} {ad : Nat → Nat}
set_option maxRecDepth 100000 in
set_option maxHeartbeats 4000000 in
theorem v_F_needGate (K : av_K p s m args meth c D cl8 ca A b_F_needGate 2 R_F WS) (G : av_G NS tabON A s s.heap) (X : av_X A s s.heap) (hx : ∀ x ∈ c.exceptionTable.toList, False) (hl : l.stackTraces = false) (hr : meth.sig.returnType = none) (fu : Nat) {r : (String ⊕ Unit) × List va_E} (v0 : Nat) (v1 : Int32) (w : List va_E) (h : f_F_needGate fu v0 v1 w = some r) : av_XVV p l e rm_F_needGate s m args below meth c D cl8 A ad ca 2 1 6 r 0 0 0 [some (.ref v0), some (.int v1)] [] w := by
  unfold f_F_needGate at h
  refine av_aload_n K d_F_needGate_0 rfl rfl ?_
  obtain ⟨q1, eq1, h⟩ := hp_bd h
  refine hv_gr K fl_F_19 d_F_needGate_1 eq1 ?_
  refine av_iload_n K d_F_needGate_4 rfl rfl ?_
  obtain ⟨_, eo5, h⟩ := hp_bd h
  obtain ⟨r2, er2, h⟩ := hp_bd h
  obtain ⟨fs5, ho5⟩ := hp_is_of eo5
  refine av_cVi K G (c_G_has (tab := tabON) er2) (cwV 1 K.2.2.2.2.1 (gV ml_F_199 im_G_has se_G_has in_G co_G_has) rfl rfl rfl cd_G_has ⟨Nat.le_of_ble_eq_true rfl, Nat.le_of_ble_eq_true rfl⟩) rfl ho5 rfl rfl (Nat.le_of_ble_eq_true rfl) d_F_needGate_5 ⟨Nat.le_of_ble_eq_true rfl, Nat.le_of_ble_eq_true rfl⟩ (fun a9 u9 h9 => ?_)
  obtain ⟨rfl, rfl⟩ : a9 = r2.1 ∧ u9 = r2.2 := ⟨congrArg Prod.fst h9, congrArg Prod.snd h9⟩
  refine av_if_ne (tgt := 21) K d_F_needGate_8 rfl (fun hc => ?_) (fun hc => ?_)
  · rw [if_neg hc] at h
    obtain rfl := Option.some.inj h
    exact av_xret (av_return K hr d_F_needGate_21 rfl) (Nat.le_of_ble_eq_true rfl) (Nat.le_of_ble_eq_true rfl)
  · rw [if_pos hc] at h
    obtain rfl := Option.some.inj h
    exact av_throw K X hx hl rfl (by decide) (text := "no such gate") (by decide) xk_90 xi_90 x1_94 x2_94 x3_94 x4_90 d_F_needGate_11 d_F_needGate_14 d_F_needGate_15 d_F_needGate_17 d_F_needGate_20 (Nat.le_of_ble_eq_true rfl) (Nat.le_of_ble_eq_true rfl) (Nat.le_of_ble_eq_true rfl) (Nat.le_of_ble_eq_true rfl) (Nat.le_of_ble_eq_true rfl) (Nat.le_of_ble_eq_true rfl) rfl
end
set_option maxRecDepth 100000 in
theorem c_F_needGate {l : Launch} {D : va_G} {ca : Nat → Nat} (hl : l.stackTraces = false) {fu : Nat} {v0 : Nat} {v1 : Int32} {w : List va_E} {r : (String ⊕ Unit) × List va_E} (h : f_F_needGate fu v0 v1 w = some r) : av_Xv l D cl8 ca NS tabON y_F_needGate w_F_needGate rm_F_needGate 1 6 [.ref v0, .int v1] w (fun u => (Sum.inr (), u) = r) (fun E u => (Sum.inl E, u) = r) :=
  av_inXV (cc := b_F_needGate) (nL := 2) (by decide +kernel) rfl (Nat.le_of_ble_eq_true rfl) (fun p e s m args below meth c A ad K G X hx hr => v_F_needGate K G X hx hl hr fu v0 v1 w h)

-- FaultTreeDesk.needTop()V
theorem d_F_needTop_0 : decode b_F_needTop 0 = .ok (.aload_n 0, 1) := by decide +kernel
theorem d_F_needTop_1 : decode b_F_needTop 1 = .ok (.getfield 51, 3) := by decide +kernel
theorem d_F_needTop_4 : decode b_F_needTop 4 = .ok (.iconst (-1), 1) := by decide +kernel
theorem d_F_needTop_5 : decode b_F_needTop 5 = .ok (.if_icmp .ne 13, 3) := by decide +kernel
theorem d_F_needTop_8 : decode b_F_needTop 8 = .ok (.new 69, 3) := by decide +kernel
theorem d_F_needTop_11 : decode b_F_needTop 11 = .ok (.dup, 1) := by decide +kernel
theorem d_F_needTop_12 : decode b_F_needTop 12 = .ok (.ldc 202, 2) := by decide +kernel
theorem d_F_needTop_14 : decode b_F_needTop 14 = .ok (.invokespecial 73, 3) := by decide +kernel
theorem d_F_needTop_17 : decode b_F_needTop 17 = .ok (.athrow, 1) := by decide +kernel
theorem d_F_needTop_18 : decode b_F_needTop 18 = .ok (.return_, 1) := by decide +kernel
def rm_F_needTop : Room := { frames := 6, cells := 1, slots := 6, locals := 110 }
def f_F_needTop (fu : Nat) (v0 : Nat) (w : List va_E) : Option ((String ⊕ Unit) × List va_E) := ((hp_gi w v0 6 6).bind fun x1 => (if x1 = (-1 : Int32) then (some (Sum.inl "java/lang/IllegalStateException", w)) else (some (Sum.inr (), w))))
section
variable {p : Program} {l : Launch} {e : Env} {s : State} {m : MethodId} {args : Array Value} {below : List Frame} {meth : Method} {c : Code} {D : va_G} {ca : Nat → Nat} {A : Nat → Prop} {ad : Nat → Nat}
set_option maxRecDepth 100000 in
set_option maxHeartbeats 4000000 in
theorem v_F_needTop (K : av_K p s m args meth c D cl8 ca A b_F_needTop 1 R_F WS) (G : av_G NS tabON A s s.heap) (X : av_X A s s.heap) (hx : ∀ x ∈ c.exceptionTable.toList, False) (hl : l.stackTraces = false) (hr : meth.sig.returnType = none) (fu : Nat) {r : (String ⊕ Unit) × List va_E} (v0 : Nat) (w : List va_E) (h : f_F_needTop fu v0 w = some r) : av_XVV p l e rm_F_needTop s m args below meth c D cl8 A ad ca 1 1 6 r 0 0 0 [some (.ref v0)] [] w := by
  unfold f_F_needTop at h
  refine av_aload_n K d_F_needTop_0 rfl rfl ?_
  obtain ⟨x1, ex1, h⟩ := hp_bd h
  refine hv_gi K fl_F_51 d_F_needTop_1 ex1 ?_
  refine av_iconst (v := (-1 : Int32)) K d_F_needTop_4 (by decide) ?_
  refine av_icmp_ne (tgt := 18) K d_F_needTop_5 rfl (fun hc => ?_) (fun hc => ?_)
  · rw [if_neg hc] at h
    obtain rfl := Option.some.inj h
    exact av_xret (av_return K hr d_F_needTop_18 rfl) (Nat.le_of_ble_eq_true rfl) (Nat.le_of_ble_eq_true rfl)
  · rw [if_pos hc] at h
    obtain rfl := Option.some.inj h
    exact av_throw K X hx hl rfl (by decide) (text := "there is no top") (by decide) xk_69 xi_69 x1_73 x2_73 x3_73 x4_69 d_F_needTop_8 d_F_needTop_11 d_F_needTop_12 d_F_needTop_14 d_F_needTop_17 (Nat.le_of_ble_eq_true rfl) (Nat.le_of_ble_eq_true rfl) (Nat.le_of_ble_eq_true rfl) (Nat.le_of_ble_eq_true rfl) (Nat.le_of_ble_eq_true rfl) (Nat.le_of_ble_eq_true rfl) rfl
end
set_option maxRecDepth 100000 in
theorem c_F_needTop {l : Launch} {D : va_G} {ca : Nat → Nat} (hl : l.stackTraces = false) {fu : Nat} {v0 : Nat} {w : List va_E} {r : (String ⊕ Unit) × List va_E} (h : f_F_needTop fu v0 w = some r) : av_Xv l D cl8 ca NS tabON y_F_needTop w_F_needTop rm_F_needTop 1 6 [.ref v0] w (fun u => (Sum.inr (), u) = r) (fun E u => (Sum.inl E, u) = r) :=
  av_inXV (cc := b_F_needTop) (nL := 1) (by decide +kernel) rfl (Nat.le_of_ble_eq_true rfl) (fun p e s m args below meth c A ad K G X hx hr => v_F_needTop K G X hx hl hr fu v0 w h)

-- FaultTreeDesk.needTerms()V
theorem d_F_needTerms_0 : decode b_F_needTerms 0 = .ok (.aload_n 0, 1) := by decide +kernel
theorem d_F_needTerms_1 : decode b_F_needTerms 1 = .ok (.getfield 59, 3) := by decide +kernel
theorem d_F_needTerms_4 : decode b_F_needTerms 4 = .ok (.ifCond .ne 30, 3) := by decide +kernel
theorem d_F_needTerms_7 : decode b_F_needTerms 7 = .ok (.aload_n 0, 1) := by decide +kernel
theorem d_F_needTerms_8 : decode b_F_needTerms 8 = .ok (.invokevirtual 143, 3) := by decide +kernel
theorem d_F_needTerms_11 : decode b_F_needTerms 11 = .ok (.aload_n 0, 1) := by decide +kernel
theorem d_F_needTerms_12 : decode b_F_needTerms 12 = .ok (.getfield 47, 3) := by decide +kernel
theorem d_F_needTerms_15 : decode b_F_needTerms 15 = .ok (.aload_n 0, 1) := by decide +kernel
theorem d_F_needTerms_16 : decode b_F_needTerms 16 = .ok (.getfield 26, 3) := by decide +kernel
theorem d_F_needTerms_19 : decode b_F_needTerms 19 = .ok (.aload_n 0, 1) := by decide +kernel
theorem d_F_needTerms_20 : decode b_F_needTerms 20 = .ok (.getfield 12, 3) := by decide +kernel
theorem d_F_needTerms_23 : decode b_F_needTerms 23 = .ok (.getfield 66, 3) := by decide +kernel
theorem d_F_needTerms_26 : decode b_F_needTerms 26 = .ok (.invokevirtual 204, 3) := by decide +kernel
theorem d_F_needTerms_29 : decode b_F_needTerms 29 = .ok (.aload_n 0, 1) := by decide +kernel
theorem d_F_needTerms_30 : decode b_F_needTerms 30 = .ok (.iconst 1, 1) := by decide +kernel
theorem d_F_needTerms_31 : decode b_F_needTerms 31 = .ok (.putfield 59, 3) := by decide +kernel
theorem d_F_needTerms_34 : decode b_F_needTerms 34 = .ok (.aload_n 0, 1) := by decide +kernel
theorem d_F_needTerms_35 : decode b_F_needTerms 35 = .ok (.getfield 47, 3) := by decide +kernel
theorem d_F_needTerms_38 : decode b_F_needTerms 38 = .ok (.getfield 208, 3) := by decide +kernel
theorem d_F_needTerms_41 : decode b_F_needTerms 41 = .ok (.ifCond .eq 13, 3) := by decide +kernel
theorem d_F_needTerms_44 : decode b_F_needTerms 44 = .ok (.new 132, 3) := by decide +kernel
theorem d_F_needTerms_47 : decode b_F_needTerms 47 = .ok (.dup, 1) := by decide +kernel
theorem d_F_needTerms_48 : decode b_F_needTerms 48 = .ok (.ldc 211, 2) := by decide +kernel
theorem d_F_needTerms_50 : decode b_F_needTerms 50 = .ok (.invokespecial 136, 3) := by decide +kernel
theorem d_F_needTerms_53 : decode b_F_needTerms 53 = .ok (.athrow, 1) := by decide +kernel
theorem d_F_needTerms_54 : decode b_F_needTerms 54 = .ok (.return_, 1) := by decide +kernel
def rm_F_needTerms : Room := { frames := 19, cells := 1, slots := 6, locals := 835 }
def f_F_needTerms_34 (fu : Nat) (v0 : Nat) (w : List va_E) : Option ((String ⊕ Unit) × List va_E) := ((hp_gr w v0 6 5).bind fun q1 => ((hp_gi w q1 4 4).bind fun x2 => (if x2 = 0 then (some (Sum.inr (), w)) else (some (Sum.inl "java/lang/UnsupportedOperationException", w)))))
def f_F_needTerms (fu : Nat) (v0 : Nat) (w : List va_E) : Option ((String ⊕ Unit) × List va_E) := ((hp_gi w v0 6 8).bind fun x1 => (if x1 = 0 then ((hp_is w v0 6).bind fun _ => ((f_F_freshenTruth fu v0 w).bind fun r2 => ((hp_gr r2 v0 6 5).bind fun q3 => ((hp_gr r2 v0 6 2).bind fun q4 => ((hp_gr r2 v0 6 0).bind fun q5 => ((hp_gi r2 q5 1 2).bind fun x6 => ((hp_is r2 q3 4).bind fun _ => ((f_X_find fu q3 q4 x6 r2).bind fun r7 => ((hp_pz r7 v0 6 8 (1 : Int32)).bind fun w8 => (f_F_needTerms_34 fu (v0) w8)))))))))) else (f_F_needTerms_34 fu (v0) w)))
section
variable {p : Program} {l : Launch} {e : Env} {s : State} {m : MethodId} {args : Array Value} {below : List Frame} {meth : Method} {c : Code} {D : va_G} {ca : Nat → Nat} {A : Nat → Prop} {ad : Nat → Nat}
set_option maxRecDepth 100000 in
set_option maxHeartbeats 4000000 in
theorem v_F_needTerms_34 (K : av_K p s m args meth c D cl8 ca A b_F_needTerms 1 R_F WS) (G : av_G NS tabON A s s.heap) (X : av_X A s s.heap) (hx : ∀ x ∈ c.exceptionTable.toList, False) (hl : l.stackTraces = false) (hr : meth.sig.returnType = none) (fu : Nat) {r : (String ⊕ Unit) × List va_E} (v0 : Nat) (w : List va_E) (h : f_F_needTerms_34 fu v0 w = some r) : av_XVV p l e rm_F_needTerms s m args below meth c D cl8 A ad ca 1 1 6 r 0 0 34 [some (.ref v0)] [] w := by
  unfold f_F_needTerms_34 at h
  refine av_aload_n K d_F_needTerms_34 rfl rfl ?_
  obtain ⟨q1, eq1, h⟩ := hp_bd h
  refine hv_gr K fl_F_47 d_F_needTerms_35 eq1 ?_
  obtain ⟨x2, ex2, h⟩ := hp_bd h
  refine hv_giN K G fl_F_208 d_F_needTerms_38 ex2 ?_
  refine av_if_eq (tgt := 54) K d_F_needTerms_41 rfl (fun hc => ?_) (fun hc => ?_)
  · rw [if_pos hc] at h
    obtain rfl := Option.some.inj h
    exact av_xret (av_return K hr d_F_needTerms_54 rfl) (Nat.le_of_ble_eq_true rfl) (Nat.le_of_ble_eq_true rfl)
  · rw [if_neg hc] at h
    obtain rfl := Option.some.inj h
    exact av_throw K X hx hl rfl (by decide) (text := "too many prime terms") (by decide) xk_132 xi_132 x1_136 x2_136 x3_136 x4_132 d_F_needTerms_44 d_F_needTerms_47 d_F_needTerms_48 d_F_needTerms_50 d_F_needTerms_53 (Nat.le_of_ble_eq_true rfl) (Nat.le_of_ble_eq_true rfl) (Nat.le_of_ble_eq_true rfl) (Nat.le_of_ble_eq_true rfl) (Nat.le_of_ble_eq_true rfl) (Nat.le_of_ble_eq_true rfl) rfl
set_option maxRecDepth 100000 in
set_option maxHeartbeats 4000000 in
theorem v_F_needTerms (K : av_K p s m args meth c D cl8 ca A b_F_needTerms 1 R_F WS) (G : av_G NS tabON A s s.heap) (X : av_X A s s.heap) (hx : ∀ x ∈ c.exceptionTable.toList, False) (hl : l.stackTraces = false) (hr : meth.sig.returnType = none) (fu : Nat) {r : (String ⊕ Unit) × List va_E} (v0 : Nat) (w : List va_E) (h : f_F_needTerms fu v0 w = some r) : av_XVV p l e rm_F_needTerms s m args below meth c D cl8 A ad ca 1 1 6 r 0 0 0 [some (.ref v0)] [] w := by
  unfold f_F_needTerms at h
  refine av_aload_n K d_F_needTerms_0 rfl rfl ?_
  obtain ⟨x1, ex1, h⟩ := hp_bd h
  refine hv_gi K fl_F_59 d_F_needTerms_1 ex1 ?_
  refine av_if_ne (tgt := 34) K d_F_needTerms_4 rfl (fun hc => ?_) (fun hc => ?_)
  · rw [if_neg hc] at h
    refine av_wd (k := 0) (n := 0) (Nat.le_of_ble_eq_true rfl) (Nat.le_of_ble_eq_true rfl) ?_
    exact v_F_needTerms_34 K G X hx hl hr fu (v0) _ h
  · rw [if_pos hc] at h
    refine av_aload_n K d_F_needTerms_7 rfl rfl ?_
    obtain ⟨_, eo8, h⟩ := hp_bd h
    obtain ⟨r2, er2, h⟩ := hp_bd h
    obtain ⟨fs8, ho8⟩ := hp_is_of eo8
    refine av_cVv K G (c_F_freshenTruth (tab := tabON) er2) (cwV 0 K.2.2.2.2.1 (gV ml_F_143 im_F_freshenTruth se_F_freshenTruth in_F co_F_freshenTruth) rfl rfl rfl cd_F_freshenTruth ⟨Nat.le_of_ble_eq_true rfl, Nat.le_of_ble_eq_true rfl⟩) rfl ho8 rfl rfl (Nat.le_of_ble_eq_true rfl) d_F_needTerms_8 ⟨Nat.le_of_ble_eq_true rfl, Nat.le_of_ble_eq_true rfl⟩ (fun u9 h9 => ?_)
    subst h9
    refine av_aload_n K d_F_needTerms_11 rfl rfl ?_
    obtain ⟨q3, eq3, h⟩ := hp_bd h
    refine hv_gr K fl_F_47 d_F_needTerms_12 eq3 ?_
    refine av_aload_n K d_F_needTerms_15 rfl rfl ?_
    obtain ⟨q4, eq4, h⟩ := hp_bd h
    refine hv_gr K fl_F_26 d_F_needTerms_16 eq4 ?_
    refine av_aload_n K d_F_needTerms_19 rfl rfl ?_
    obtain ⟨q5, eq5, h⟩ := hp_bd h
    refine hv_gr K fl_F_12 d_F_needTerms_20 eq5 ?_
    obtain ⟨x6, ex6, h⟩ := hp_bd h
    refine hv_giN K G fl_F_66 d_F_needTerms_23 ex6 ?_
    obtain ⟨_, eo26, h⟩ := hp_bd h
    obtain ⟨r7, er7, h⟩ := hp_bd h
    obtain ⟨fs26, ho26⟩ := hp_is_of eo26
    refine av_cVv K G (c_X_find (tab := tabON) er7) (cwV 2 K.2.2.2.2.1 (gV ml_F_204 im_X_find se_X_find in_X co_X_find) rfl rfl rfl cd_X_find ⟨Nat.le_of_ble_eq_true rfl, Nat.le_of_ble_eq_true rfl⟩) rfl ho26 rfl rfl (Nat.le_of_ble_eq_true rfl) d_F_needTerms_26 ⟨Nat.le_of_ble_eq_true rfl, Nat.le_of_ble_eq_true rfl⟩ (fun u9 h9 => ?_)
    subst h9
    refine av_aload_n K d_F_needTerms_29 rfl rfl ?_
    refine av_iconst (v := (1 : Int32)) K d_F_needTerms_30 (by decide) ?_
    obtain ⟨w8, ew8, h⟩ := hp_bd h
    refine hv_pz K fp_F_59 d_F_needTerms_31 ew8 ?_
    refine av_wd (k := 0) (n := 0) (Nat.le_of_ble_eq_true rfl) (Nat.le_of_ble_eq_true rfl) ?_
    exact v_F_needTerms_34 K G X hx hl hr fu (v0) _ h
end
set_option maxRecDepth 100000 in
theorem c_F_needTerms {l : Launch} {D : va_G} {ca : Nat → Nat} (hl : l.stackTraces = false) {fu : Nat} {v0 : Nat} {w : List va_E} {r : (String ⊕ Unit) × List va_E} (h : f_F_needTerms fu v0 w = some r) : av_Xv l D cl8 ca NS tabON y_F_needTerms w_F_needTerms rm_F_needTerms 1 6 [.ref v0] w (fun u => (Sum.inr (), u) = r) (fun E u => (Sum.inl E, u) = r) :=
  av_inXV (cc := b_F_needTerms) (nL := 1) (by decide +kernel) rfl (Nat.le_of_ble_eq_true rfl) (fun p e s m args below meth c A ad K G X hx hr => v_F_needTerms K G X hx hl hr fu v0 w h)

-- FaultTreeDesk.event(I)I
theorem d_F_event_0 : decode b_F_event 0 = .ok (.aload_n 0, 1) := by decide +kernel
theorem d_F_event_1 : decode b_F_event 1 = .ok (.iload_n 1, 1) := by decide +kernel
theorem d_F_event_2 : decode b_F_event 2 = .ok (.invokevirtual 62, 3) := by decide +kernel
theorem d_F_event_5 : decode b_F_event 5 = .ok (.aload_n 0, 1) := by decide +kernel
theorem d_F_event_6 : decode b_F_event 6 = .ok (.getfield 12, 3) := by decide +kernel
theorem d_F_event_9 : decode b_F_event 9 = .ok (.getfield 66, 3) := by decide +kernel
theorem d_F_event_12 : decode b_F_event 12 = .ok (.bipush 10, 2) := by decide +kernel
theorem d_F_event_14 : decode b_F_event 14 = .ok (.if_icmp .lt 13, 3) := by decide +kernel
theorem d_F_event_17 : decode b_F_event 17 = .ok (.new 69, 3) := by decide +kernel
theorem d_F_event_20 : decode b_F_event 20 = .ok (.dup, 1) := by decide +kernel
theorem d_F_event_21 : decode b_F_event 21 = .ok (.ldc 71, 2) := by decide +kernel
theorem d_F_event_23 : decode b_F_event 23 = .ok (.invokespecial 73, 3) := by decide +kernel
theorem d_F_event_26 : decode b_F_event 26 = .ok (.athrow, 1) := by decide +kernel
theorem d_F_event_27 : decode b_F_event 27 = .ok (.aload_n 0, 1) := by decide +kernel
theorem d_F_event_28 : decode b_F_event 28 = .ok (.invokevirtual 76, 3) := by decide +kernel
theorem d_F_event_31 : decode b_F_event 31 = .ok (.aload_n 0, 1) := by decide +kernel
theorem d_F_event_32 : decode b_F_event 32 = .ok (.getfield 12, 3) := by decide +kernel
theorem d_F_event_35 : decode b_F_event 35 = .ok (.iload_n 1, 1) := by decide +kernel
theorem d_F_event_36 : decode b_F_event 36 = .ok (.invokevirtual 79, 3) := by decide +kernel
theorem d_F_event_39 : decode b_F_event 39 = .ok (.ireturn, 1) := by decide +kernel
def rm_F_event : Room := { frames := 7, cells := 8, slots := 48, locals := 131 }
def f_F_event (fu : Nat) (v0 : Nat) (v1 : Int32) (w : List va_E) : Option ((String ⊕ Int32) × List va_E) := ((hp_is w v0 6).bind fun _ => (hx_bd (f_F_needChance fu v0 v1 w) fun _ u3 => ((hp_gr u3 v0 6 0).bind fun q4 => ((hp_gi u3 q4 1 2).bind fun x5 => (if x5 < (10 : Int32) then ((hp_is u3 v0 6).bind fun _ => ((f_F_forgetAnswers fu v0 u3).bind fun r6 => ((hp_gr r6 v0 6 0).bind fun q7 => ((hp_is r6 q7 1).bind fun _ => ((f_E_add fu q7 v1 r6).bind fun r8 => (some (Sum.inr r8.1, r8.2))))))) else (some (Sum.inl "java/lang/IllegalStateException", u3)))))))
section
variable {p : Program} {l : Launch} {e : Env} {s : State} {m : MethodId} {args : Array Value} {below : List Frame} {meth : Method} {c : Code} {D : va_G} {ca : Nat → Nat} {A : Nat → Prop} {ad : Nat → Nat}
set_option maxRecDepth 100000 in
set_option maxHeartbeats 4000000 in
theorem v_F_event (K : av_K p s m args meth c D cl8 ca A b_F_event 2 R_F WS) (G : av_G NS tabON A s s.heap) (X : av_X A s s.heap) (hx : ∀ x ∈ c.exceptionTable.toList, False) (hl : l.stackTraces = false) (hr : meth.sig.returnType = some .int) (fu : Nat) {r : (String ⊕ Int32) × List va_E} (v0 : Nat) (v1 : Int32) (w : List va_E) (h : f_F_event fu v0 v1 w = some r) : av_XVI p l e rm_F_event s m args below meth c D cl8 A ad ca 2 8 48 r 0 0 0 [some (.ref v0), some (.int v1)] [] w := by
  unfold f_F_event at h
  refine av_aload_n K d_F_event_0 rfl rfl ?_
  refine av_iload_n K d_F_event_1 rfl rfl ?_
  obtain ⟨_, eo2, h⟩ := hp_bd h
  obtain ⟨fs2, ho2⟩ := hp_is_of eo2
  obtain ⟨r1, er1, lr1, h⟩ := hx_of h
  refine av_xVv K G X hx (c_F_needChance hl er1) (cwV 1 K.2.2.2.2.1 (gV ml_F_62 im_F_needChance se_F_needChance in_F co_F_needChance) rfl rfl rfl cd_F_needChance ⟨(Nat.le_of_ble_eq_true rfl), (Nat.le_of_ble_eq_true rfl)⟩) rfl ho2 rfl rfl (Nat.le_of_ble_eq_true rfl) d_F_event_2 ⟨(Nat.le_of_ble_eq_true rfl), (Nat.le_of_ble_eq_true rfl)⟩ (Nat.le_of_ble_eq_true rfl) (Nat.le_of_ble_eq_true rfl) (fun E9 u9 h9 => (lr1 E9 u9 h9.symm).symm) (fun u3 h9 => ?_)
  have h := h () u3 h9.symm
  refine av_aload_n K d_F_event_5 rfl rfl ?_
  obtain ⟨q4, eq4, h⟩ := hp_bd h
  refine hv_gr K fl_F_12 d_F_event_6 eq4 ?_
  obtain ⟨x5, ex5, h⟩ := hp_bd h
  refine hv_giN K G fl_F_66 d_F_event_9 ex5 ?_
  refine av_bipush (v := (10 : Int32)) K d_F_event_12 (by decide) ?_
  refine av_icmp_lt (tgt := 27) K d_F_event_14 rfl (fun hc => ?_) (fun hc => ?_)
  · rw [if_pos hc] at h
    refine av_aload_n K d_F_event_27 rfl rfl ?_
    obtain ⟨_, eo28, h⟩ := hp_bd h
    obtain ⟨r6, er6, h⟩ := hp_bd h
    obtain ⟨fs28, ho28⟩ := hp_is_of eo28
    refine av_cVv K G (c_F_forgetAnswers (tab := tabON) er6) (cwV 0 K.2.2.2.2.1 (gV ml_F_76 im_F_forgetAnswers se_F_forgetAnswers in_F co_F_forgetAnswers) rfl rfl rfl cd_F_forgetAnswers ⟨Nat.le_of_ble_eq_true rfl, Nat.le_of_ble_eq_true rfl⟩) rfl ho28 rfl rfl (Nat.le_of_ble_eq_true rfl) d_F_event_28 ⟨Nat.le_of_ble_eq_true rfl, Nat.le_of_ble_eq_true rfl⟩ (fun u9 h9 => ?_)
    subst h9
    refine av_aload_n K d_F_event_31 rfl rfl ?_
    obtain ⟨q7, eq7, h⟩ := hp_bd h
    refine hv_gr K fl_F_12 d_F_event_32 eq7 ?_
    refine av_iload_n K d_F_event_35 rfl rfl ?_
    obtain ⟨_, eo36, h⟩ := hp_bd h
    obtain ⟨r8, er8, h⟩ := hp_bd h
    obtain ⟨fs36, ho36⟩ := hp_is_of eo36
    refine av_cVi K G (c_E_add (tab := tabON) er8) (cwV 1 K.2.2.2.2.1 (gV ml_F_79 im_E_add se_E_add in_E co_E_add) rfl rfl rfl cd_E_add ⟨Nat.le_of_ble_eq_true rfl, Nat.le_of_ble_eq_true rfl⟩) rfl ho36 rfl rfl (Nat.le_of_ble_eq_true rfl) d_F_event_36 ⟨Nat.le_of_ble_eq_true rfl, Nat.le_of_ble_eq_true rfl⟩ (fun a9 u9 h9 => ?_)
    obtain ⟨rfl, rfl⟩ : a9 = r8.1 ∧ u9 = r8.2 := ⟨congrArg Prod.fst h9, congrArg Prod.snd h9⟩
    obtain rfl := Option.some.inj h
    exact av_xret (av_ireturn K hr d_F_event_39 rfl) (Nat.le_of_ble_eq_true rfl) (Nat.le_of_ble_eq_true rfl)
  · rw [if_neg hc] at h
    obtain rfl := Option.some.inj h
    exact av_throw K X hx hl rfl (by decide) (text := "no room for another event") (by decide) xk_69 xi_69 x1_73 x2_73 x3_73 x4_69 d_F_event_17 d_F_event_20 d_F_event_21 d_F_event_23 d_F_event_26 (Nat.le_of_ble_eq_true rfl) (Nat.le_of_ble_eq_true rfl) (Nat.le_of_ble_eq_true rfl) (Nat.le_of_ble_eq_true rfl) (Nat.le_of_ble_eq_true rfl) (Nat.le_of_ble_eq_true rfl) rfl
end
set_option maxRecDepth 100000 in
theorem c_F_event {l : Launch} {D : va_G} {ca : Nat → Nat} (hl : l.stackTraces = false) {fu : Nat} {v0 : Nat} {v1 : Int32} {w : List va_E} {r : (String ⊕ Int32) × List va_E} (h : f_F_event fu v0 v1 w = some r) : av_Xi l D cl8 ca NS tabON y_F_event w_F_event rm_F_event 8 48 [.ref v0, .int v1] w (fun v u => (Sum.inr v, u) = r) (fun E u => (Sum.inl E, u) = r) :=
  av_inXI (cc := b_F_event) (nL := 2) (by decide +kernel) rfl (Nat.le_of_ble_eq_true rfl) (fun p e s m args below meth c A ad K G X hx hr => v_F_event K G X hx hl hr fu v0 v1 w h)

-- FaultTreeDesk.chance(II)I
theorem d_F_chance_0 : decode b_F_chance 0 = .ok (.aload_n 0, 1) := by decide +kernel
theorem d_F_chance_1 : decode b_F_chance 1 = .ok (.iload_n 1, 1) := by decide +kernel
theorem d_F_chance_2 : decode b_F_chance 2 = .ok (.invokevirtual 83, 3) := by decide +kernel
theorem d_F_chance_5 : decode b_F_chance 5 = .ok (.aload_n 0, 1) := by decide +kernel
theorem d_F_chance_6 : decode b_F_chance 6 = .ok (.iload_n 2, 1) := by decide +kernel
theorem d_F_chance_7 : decode b_F_chance 7 = .ok (.invokevirtual 62, 3) := by decide +kernel
theorem d_F_chance_10 : decode b_F_chance 10 = .ok (.aload_n 0, 1) := by decide +kernel
theorem d_F_chance_11 : decode b_F_chance 11 = .ok (.getfield 12, 3) := by decide +kernel
theorem d_F_chance_14 : decode b_F_chance 14 = .ok (.getfield 86, 3) := by decide +kernel
theorem d_F_chance_17 : decode b_F_chance 17 = .ok (.iload_n 1, 1) := by decide +kernel
theorem d_F_chance_18 : decode b_F_chance 18 = .ok (.iaload, 1) := by decide +kernel
theorem d_F_chance_19 : decode b_F_chance 19 = .ok (.istore_n 3, 1) := by decide +kernel
theorem d_F_chance_20 : decode b_F_chance 20 = .ok (.aload_n 0, 1) := by decide +kernel
theorem d_F_chance_21 : decode b_F_chance 21 = .ok (.getfield 12, 3) := by decide +kernel
theorem d_F_chance_24 : decode b_F_chance 24 = .ok (.getfield 86, 3) := by decide +kernel
theorem d_F_chance_27 : decode b_F_chance 27 = .ok (.iload_n 1, 1) := by decide +kernel
theorem d_F_chance_28 : decode b_F_chance 28 = .ok (.iload_n 2, 1) := by decide +kernel
theorem d_F_chance_29 : decode b_F_chance 29 = .ok (.iastore, 1) := by decide +kernel
theorem d_F_chance_30 : decode b_F_chance 30 = .ok (.iload_n 3, 1) := by decide +kernel
theorem d_F_chance_31 : decode b_F_chance 31 = .ok (.ireturn, 1) := by decide +kernel
def rm_F_chance : Room := { frames := 7, cells := 8, slots := 48, locals := 131 }
def f_F_chance (fu : Nat) (v0 : Nat) (v1 : Int32) (v2 : Int32) (w : List va_E) : Option ((String ⊕ Int32) × List va_E) := ((hp_is w v0 6).bind fun _ => (hx_bd (f_F_needEvent fu v0 v1 w) fun _ u3 => ((hp_is u3 v0 6).bind fun _ => (hx_bd (f_F_needChance fu v0 v2 u3) fun _ u6 => ((hp_gr u6 v0 6 0).bind fun q7 => ((hp_gr u6 q7 1 0).bind fun q8 => ((hp_ri u6 q8 v1).bind fun x9 => ((hp_gr u6 v0 6 0).bind fun q10 => ((hp_gr u6 q10 1 0).bind fun q11 => ((hp_wi u6 q11 v1 v2).bind fun w12 => (some (Sum.inr x9, w12))))))))))))
section
variable {p : Program} {l : Launch} {e : Env} {s : State} {m : MethodId} {args : Array Value} {below : List Frame} {meth : Method} {c : Code} {D : va_G} {ca : Nat → Nat} {A : Nat → Prop} {ad : Nat → Nat}
set_option maxRecDepth 100000 in
set_option maxHeartbeats 4000000 in
theorem v_F_chance (K : av_K p s m args meth c D cl8 ca A b_F_chance 4 R_F WS) (G : av_G NS tabON A s s.heap) (X : av_X A s s.heap) (hx : ∀ x ∈ c.exceptionTable.toList, False) (hl : l.stackTraces = false) (hr : meth.sig.returnType = some .int) (fu : Nat) {r : (String ⊕ Int32) × List va_E} (v0 : Nat) (v1 : Int32) (v2 : Int32) (w : List va_E) (h : f_F_chance fu v0 v1 v2 w = some r) : av_XVI p l e rm_F_chance s m args below meth c D cl8 A ad ca 4 8 48 r 0 0 0 [some (.ref v0), some (.int v1), some (.int v2), none] [] w := by
  unfold f_F_chance at h
  refine av_aload_n K d_F_chance_0 rfl rfl ?_
  refine av_iload_n K d_F_chance_1 rfl rfl ?_
  obtain ⟨_, eo2, h⟩ := hp_bd h
  obtain ⟨fs2, ho2⟩ := hp_is_of eo2
  obtain ⟨r1, er1, lr1, h⟩ := hx_of h
  refine av_xVv K G X hx (c_F_needEvent hl er1) (cwV 1 K.2.2.2.2.1 (gV ml_F_83 im_F_needEvent se_F_needEvent in_F co_F_needEvent) rfl rfl rfl cd_F_needEvent ⟨(Nat.le_of_ble_eq_true rfl), (Nat.le_of_ble_eq_true rfl)⟩) rfl ho2 rfl rfl (Nat.le_of_ble_eq_true rfl) d_F_chance_2 ⟨(Nat.le_of_ble_eq_true rfl), (Nat.le_of_ble_eq_true rfl)⟩ (Nat.le_of_ble_eq_true rfl) (Nat.le_of_ble_eq_true rfl) (fun E9 u9 h9 => (lr1 E9 u9 h9.symm).symm) (fun u3 h9 => ?_)
  have h := h () u3 h9.symm
  refine av_aload_n K d_F_chance_5 rfl rfl ?_
  refine av_iload_n K d_F_chance_6 rfl rfl ?_
  obtain ⟨_, eo7, h⟩ := hp_bd h
  obtain ⟨fs7, ho7⟩ := hp_is_of eo7
  obtain ⟨r4, er4, lr4, h⟩ := hx_of h
  refine av_xVv K G X hx (c_F_needChance hl er4) (cwV 1 K.2.2.2.2.1 (gV ml_F_62 im_F_needChance se_F_needChance in_F co_F_needChance) rfl rfl rfl cd_F_needChance ⟨(Nat.le_of_ble_eq_true rfl), (Nat.le_of_ble_eq_true rfl)⟩) rfl ho7 rfl rfl (Nat.le_of_ble_eq_true rfl) d_F_chance_7 ⟨(Nat.le_of_ble_eq_true rfl), (Nat.le_of_ble_eq_true rfl)⟩ (Nat.le_of_ble_eq_true rfl) (Nat.le_of_ble_eq_true rfl) (fun E9 u9 h9 => (lr4 E9 u9 h9.symm).symm) (fun u6 h9 => ?_)
  have h := h () u6 h9.symm
  refine av_aload_n K d_F_chance_10 rfl rfl ?_
  obtain ⟨q7, eq7, h⟩ := hp_bd h
  refine hv_gr K fl_F_12 d_F_chance_11 eq7 ?_
  obtain ⟨q8, eq8, h⟩ := hp_bd h
  refine hv_grN K G fl_F_86 d_F_chance_14 eq8 ?_
  refine av_iload_n K d_F_chance_17 rfl rfl ?_
  obtain ⟨x9, ex9, h⟩ := hp_bd h
  refine hv_ri K d_F_chance_18 ex9 ?_
  refine av_istore_n (L' := [some (.ref v0), some (.int v1), some (.int v2), some (.int x9)]) K d_F_chance_19 rfl (Nat.le_of_ble_eq_true rfl) rfl ?_
  refine av_aload_n K d_F_chance_20 rfl rfl ?_
  obtain ⟨q10, eq10, h⟩ := hp_bd h
  refine hv_gr K fl_F_12 d_F_chance_21 eq10 ?_
  obtain ⟨q11, eq11, h⟩ := hp_bd h
  refine hv_grN K G fl_F_86 d_F_chance_24 eq11 ?_
  refine av_iload_n K d_F_chance_27 rfl rfl ?_
  refine av_iload_n K d_F_chance_28 rfl rfl ?_
  obtain ⟨w12, ew12, h⟩ := hp_bd h
  refine hv_wi K d_F_chance_29 ew12 ?_
  refine av_iload_n K d_F_chance_30 rfl rfl ?_
  obtain rfl := Option.some.inj h
  exact av_xret (av_ireturn K hr d_F_chance_31 rfl) (Nat.le_of_ble_eq_true rfl) (Nat.le_of_ble_eq_true rfl)
end
set_option maxRecDepth 100000 in
theorem c_F_chance {l : Launch} {D : va_G} {ca : Nat → Nat} (hl : l.stackTraces = false) {fu : Nat} {v0 : Nat} {v1 : Int32} {v2 : Int32} {w : List va_E} {r : (String ⊕ Int32) × List va_E} (h : f_F_chance fu v0 v1 v2 w = some r) : av_Xi l D cl8 ca NS tabON y_F_chance w_F_chance rm_F_chance 8 48 [.ref v0, .int v1, .int v2] w (fun v u => (Sum.inr v, u) = r) (fun E u => (Sum.inl E, u) = r) :=
  av_inXI (cc := b_F_chance) (nL := 4) (by decide +kernel) rfl (Nat.le_of_ble_eq_true rfl) (fun p e s m args below meth c A ad K G X hx hr => v_F_chance K G X hx hl hr fu v0 v1 v2 w h)

-- FaultTreeDesk.hold(II)I
theorem d_F_hold_0 : decode b_F_hold 0 = .ok (.aload_n 0, 1) := by decide +kernel
theorem d_F_hold_1 : decode b_F_hold 1 = .ok (.iload_n 1, 1) := by decide +kernel
theorem d_F_hold_2 : decode b_F_hold 2 = .ok (.invokevirtual 83, 3) := by decide +kernel
theorem d_F_hold_5 : decode b_F_hold 5 = .ok (.iload_n 2, 1) := by decide +kernel
theorem d_F_hold_6 : decode b_F_hold 6 = .ok (.ifCond .eq 23, 3) := by decide +kernel
theorem d_F_hold_9 : decode b_F_hold 9 = .ok (.iload_n 2, 1) := by decide +kernel
theorem d_F_hold_10 : decode b_F_hold 10 = .ok (.iconst 1, 1) := by decide +kernel
theorem d_F_hold_11 : decode b_F_hold 11 = .ok (.if_icmp .eq 18, 3) := by decide +kernel
theorem d_F_hold_14 : decode b_F_hold 14 = .ok (.iload_n 2, 1) := by decide +kernel
theorem d_F_hold_15 : decode b_F_hold 15 = .ok (.iconst 2, 1) := by decide +kernel
theorem d_F_hold_16 : decode b_F_hold 16 = .ok (.if_icmp .eq 13, 3) := by decide +kernel
theorem d_F_hold_19 : decode b_F_hold 19 = .ok (.new 90, 3) := by decide +kernel
theorem d_F_hold_22 : decode b_F_hold 22 = .ok (.dup, 1) := by decide +kernel
theorem d_F_hold_23 : decode b_F_hold 23 = .ok (.ldc 92, 2) := by decide +kernel
theorem d_F_hold_25 : decode b_F_hold 25 = .ok (.invokespecial 94, 3) := by decide +kernel
theorem d_F_hold_28 : decode b_F_hold 28 = .ok (.athrow, 1) := by decide +kernel
theorem d_F_hold_29 : decode b_F_hold 29 = .ok (.aload_n 0, 1) := by decide +kernel
theorem d_F_hold_30 : decode b_F_hold 30 = .ok (.getfield 12, 3) := by decide +kernel
theorem d_F_hold_33 : decode b_F_hold 33 = .ok (.getfield 95, 3) := by decide +kernel
theorem d_F_hold_36 : decode b_F_hold 36 = .ok (.iload_n 1, 1) := by decide +kernel
theorem d_F_hold_37 : decode b_F_hold 37 = .ok (.iaload, 1) := by decide +kernel
theorem d_F_hold_38 : decode b_F_hold 38 = .ok (.istore_n 3, 1) := by decide +kernel
theorem d_F_hold_39 : decode b_F_hold 39 = .ok (.aload_n 0, 1) := by decide +kernel
theorem d_F_hold_40 : decode b_F_hold 40 = .ok (.getfield 12, 3) := by decide +kernel
theorem d_F_hold_43 : decode b_F_hold 43 = .ok (.getfield 95, 3) := by decide +kernel
theorem d_F_hold_46 : decode b_F_hold 46 = .ok (.iload_n 1, 1) := by decide +kernel
theorem d_F_hold_47 : decode b_F_hold 47 = .ok (.iload_n 2, 1) := by decide +kernel
theorem d_F_hold_48 : decode b_F_hold 48 = .ok (.iastore, 1) := by decide +kernel
theorem d_F_hold_49 : decode b_F_hold 49 = .ok (.aload_n 0, 1) := by decide +kernel
theorem d_F_hold_50 : decode b_F_hold 50 = .ok (.invokevirtual 76, 3) := by decide +kernel
theorem d_F_hold_53 : decode b_F_hold 53 = .ok (.iload_n 3, 1) := by decide +kernel
theorem d_F_hold_54 : decode b_F_hold 54 = .ok (.ireturn, 1) := by decide +kernel
def rm_F_hold : Room := { frames := 7, cells := 8, slots := 48, locals := 131 }
def f_F_hold_29 (fu : Nat) (v0 : Nat) (v1 : Int32) (v2 : Int32) (w : List va_E) : Option ((String ⊕ Int32) × List va_E) := ((hp_gr w v0 6 0).bind fun q1 => ((hp_gr w q1 1 1).bind fun q2 => ((hp_ri w q2 v1).bind fun x3 => ((hp_gr w v0 6 0).bind fun q4 => ((hp_gr w q4 1 1).bind fun q5 => ((hp_wi w q5 v1 v2).bind fun w6 => ((hp_is w6 v0 6).bind fun _ => ((f_F_forgetAnswers fu v0 w6).bind fun r7 => (some (Sum.inr x3, r7))))))))))
def f_F_hold (fu : Nat) (v0 : Nat) (v1 : Int32) (v2 : Int32) (w : List va_E) : Option ((String ⊕ Int32) × List va_E) := ((hp_is w v0 6).bind fun _ => (hx_bd (f_F_needEvent fu v0 v1 w) fun _ u3 => (if v2 = 0 then (f_F_hold_29 fu (v0) (v1) (v2) u3) else (if v2 = (1 : Int32) then (f_F_hold_29 fu (v0) (v1) (v2) u3) else (if v2 = (2 : Int32) then (f_F_hold_29 fu (v0) (v1) (v2) u3) else (some (Sum.inl "java/lang/IllegalArgumentException", u3)))))))
section
variable {p : Program} {l : Launch} {e : Env} {s : State} {m : MethodId} {args : Array Value} {below : List Frame} {meth : Method} {c : Code} {D : va_G} {ca : Nat → Nat} {A : Nat → Prop} {ad : Nat → Nat}
set_option maxRecDepth 100000 in
set_option maxHeartbeats 4000000 in
theorem v_F_hold_29 (K : av_K p s m args meth c D cl8 ca A b_F_hold 4 R_F WS) (G : av_G NS tabON A s s.heap) (X : av_X A s s.heap) (hx : ∀ x ∈ c.exceptionTable.toList, False) (hl : l.stackTraces = false) (hr : meth.sig.returnType = some .int) (fu : Nat) {r : (String ⊕ Int32) × List va_E} (v0 : Nat) (v1 : Int32) (v2 : Int32) (w : List va_E) (h : f_F_hold_29 fu v0 v1 v2 w = some r) : av_XVI p l e rm_F_hold s m args below meth c D cl8 A ad ca 4 8 48 r 1 6 29 [some (.ref v0), some (.int v1), some (.int v2), none] [] w := by
  unfold f_F_hold_29 at h
  refine av_aload_n K d_F_hold_29 rfl rfl ?_
  obtain ⟨q1, eq1, h⟩ := hp_bd h
  refine hv_gr K fl_F_12 d_F_hold_30 eq1 ?_
  obtain ⟨q2, eq2, h⟩ := hp_bd h
  refine hv_grN K G fl_F_95 d_F_hold_33 eq2 ?_
  refine av_iload_n K d_F_hold_36 rfl rfl ?_
  obtain ⟨x3, ex3, h⟩ := hp_bd h
  refine hv_ri K d_F_hold_37 ex3 ?_
  refine av_istore_n (L' := [some (.ref v0), some (.int v1), some (.int v2), some (.int x3)]) K d_F_hold_38 rfl (Nat.le_of_ble_eq_true rfl) rfl ?_
  refine av_aload_n K d_F_hold_39 rfl rfl ?_
  obtain ⟨q4, eq4, h⟩ := hp_bd h
  refine hv_gr K fl_F_12 d_F_hold_40 eq4 ?_
  obtain ⟨q5, eq5, h⟩ := hp_bd h
  refine hv_grN K G fl_F_95 d_F_hold_43 eq5 ?_
  refine av_iload_n K d_F_hold_46 rfl rfl ?_
  refine av_iload_n K d_F_hold_47 rfl rfl ?_
  obtain ⟨w6, ew6, h⟩ := hp_bd h
  refine hv_wi K d_F_hold_48 ew6 ?_
  refine av_aload_n K d_F_hold_49 rfl rfl ?_
  obtain ⟨_, eo50, h⟩ := hp_bd h
  obtain ⟨r7, er7, h⟩ := hp_bd h
  obtain ⟨fs50, ho50⟩ := hp_is_of eo50
  refine av_cVv K G (c_F_forgetAnswers (tab := tabON) er7) (cwV 0 K.2.2.2.2.1 (gV ml_F_76 im_F_forgetAnswers se_F_forgetAnswers in_F co_F_forgetAnswers) rfl rfl rfl cd_F_forgetAnswers ⟨Nat.le_of_ble_eq_true rfl, Nat.le_of_ble_eq_true rfl⟩) rfl ho50 rfl rfl (Nat.le_of_ble_eq_true rfl) d_F_hold_50 ⟨Nat.le_of_ble_eq_true rfl, Nat.le_of_ble_eq_true rfl⟩ (fun u9 h9 => ?_)
  subst h9
  refine av_iload_n K d_F_hold_53 rfl rfl ?_
  obtain rfl := Option.some.inj h
  exact av_xret (av_ireturn K hr d_F_hold_54 rfl) (Nat.le_of_ble_eq_true rfl) (Nat.le_of_ble_eq_true rfl)
set_option maxRecDepth 100000 in
set_option maxHeartbeats 4000000 in
theorem v_F_hold (K : av_K p s m args meth c D cl8 ca A b_F_hold 4 R_F WS) (G : av_G NS tabON A s s.heap) (X : av_X A s s.heap) (hx : ∀ x ∈ c.exceptionTable.toList, False) (hl : l.stackTraces = false) (hr : meth.sig.returnType = some .int) (fu : Nat) {r : (String ⊕ Int32) × List va_E} (v0 : Nat) (v1 : Int32) (v2 : Int32) (w : List va_E) (h : f_F_hold fu v0 v1 v2 w = some r) : av_XVI p l e rm_F_hold s m args below meth c D cl8 A ad ca 4 8 48 r 0 0 0 [some (.ref v0), some (.int v1), some (.int v2), none] [] w := by
  unfold f_F_hold at h
  refine av_aload_n K d_F_hold_0 rfl rfl ?_
  refine av_iload_n K d_F_hold_1 rfl rfl ?_
  obtain ⟨_, eo2, h⟩ := hp_bd h
  obtain ⟨fs2, ho2⟩ := hp_is_of eo2
  obtain ⟨r1, er1, lr1, h⟩ := hx_of h
  refine av_xVv K G X hx (c_F_needEvent hl er1) (cwV 1 K.2.2.2.2.1 (gV ml_F_83 im_F_needEvent se_F_needEvent in_F co_F_needEvent) rfl rfl rfl cd_F_needEvent ⟨(Nat.le_of_ble_eq_true rfl), (Nat.le_of_ble_eq_true rfl)⟩) rfl ho2 rfl rfl (Nat.le_of_ble_eq_true rfl) d_F_hold_2 ⟨(Nat.le_of_ble_eq_true rfl), (Nat.le_of_ble_eq_true rfl)⟩ (Nat.le_of_ble_eq_true rfl) (Nat.le_of_ble_eq_true rfl) (fun E9 u9 h9 => (lr1 E9 u9 h9.symm).symm) (fun u3 h9 => ?_)
  have h := h () u3 h9.symm
  refine av_iload_n K d_F_hold_5 rfl rfl ?_
  refine av_if_eq (tgt := 29) K d_F_hold_6 rfl (fun hc => ?_) (fun hc => ?_)
  · rw [if_pos hc] at h
    refine av_wd (k := 1) (n := 6) (Nat.le_of_ble_eq_true rfl) (Nat.le_of_ble_eq_true rfl) ?_
    exact v_F_hold_29 K G X hx hl hr fu (v0) (v1) (v2) _ h
  · rw [if_neg hc] at h
    refine av_iload_n K d_F_hold_9 rfl rfl ?_
    refine av_iconst (v := (1 : Int32)) K d_F_hold_10 (by decide) ?_
    refine av_icmp_eq (tgt := 29) K d_F_hold_11 rfl (fun hc => ?_) (fun hc => ?_)
    · rw [if_pos hc] at h
      refine av_wd (k := 1) (n := 6) (Nat.le_of_ble_eq_true rfl) (Nat.le_of_ble_eq_true rfl) ?_
      exact v_F_hold_29 K G X hx hl hr fu (v0) (v1) (v2) _ h
    · rw [if_neg hc] at h
      refine av_iload_n K d_F_hold_14 rfl rfl ?_
      refine av_iconst (v := (2 : Int32)) K d_F_hold_15 (by decide) ?_
      refine av_icmp_eq (tgt := 29) K d_F_hold_16 rfl (fun hc => ?_) (fun hc => ?_)
      · rw [if_pos hc] at h
        refine av_wd (k := 1) (n := 6) (Nat.le_of_ble_eq_true rfl) (Nat.le_of_ble_eq_true rfl) ?_
        exact v_F_hold_29 K G X hx hl hr fu (v0) (v1) (v2) _ h
      · rw [if_neg hc] at h
        obtain rfl := Option.some.inj h
        exact av_throw K X hx hl rfl (by decide) (text := "no such way to hold") (by decide) xk_90 xi_90 x1_94 x2_94 x3_94 x4_90 d_F_hold_19 d_F_hold_22 d_F_hold_23 d_F_hold_25 d_F_hold_28 (Nat.le_of_ble_eq_true rfl) (Nat.le_of_ble_eq_true rfl) (Nat.le_of_ble_eq_true rfl) (Nat.le_of_ble_eq_true rfl) (Nat.le_of_ble_eq_true rfl) (Nat.le_of_ble_eq_true rfl) rfl
end
set_option maxRecDepth 100000 in
theorem c_F_hold {l : Launch} {D : va_G} {ca : Nat → Nat} (hl : l.stackTraces = false) {fu : Nat} {v0 : Nat} {v1 : Int32} {v2 : Int32} {w : List va_E} {r : (String ⊕ Int32) × List va_E} (h : f_F_hold fu v0 v1 v2 w = some r) : av_Xi l D cl8 ca NS tabON y_F_hold w_F_hold rm_F_hold 8 48 [.ref v0, .int v1, .int v2] w (fun v u => (Sum.inr v, u) = r) (fun E u => (Sum.inl E, u) = r) :=
  av_inXI (cc := b_F_hold) (nL := 4) (by decide +kernel) rfl (Nat.le_of_ble_eq_true rfl) (fun p e s m args below meth c A ad K G X hx hr => v_F_hold K G X hx hl hr fu v0 v1 v2 w h)

-- FaultTreeDesk.gate(II)I
theorem d_F_gate_0 : decode b_F_gate 0 = .ok (.iload_n 1, 1) := by decide +kernel
theorem d_F_gate_1 : decode b_F_gate 1 = .ok (.ifCond .lt 8, 3) := by decide +kernel
theorem d_F_gate_4 : decode b_F_gate 4 = .ok (.iload_n 1, 1) := by decide +kernel
theorem d_F_gate_5 : decode b_F_gate 5 = .ok (.iconst 4, 1) := by decide +kernel
theorem d_F_gate_6 : decode b_F_gate 6 = .ok (.if_icmp .le 13, 3) := by decide +kernel
theorem d_F_gate_9 : decode b_F_gate 9 = .ok (.new 90, 3) := by decide +kernel
theorem d_F_gate_12 : decode b_F_gate 12 = .ok (.dup, 1) := by decide +kernel
theorem d_F_gate_13 : decode b_F_gate 13 = .ok (.ldc 98, 2) := by decide +kernel
theorem d_F_gate_15 : decode b_F_gate 15 = .ok (.invokespecial 94, 3) := by decide +kernel
theorem d_F_gate_18 : decode b_F_gate 18 = .ok (.athrow, 1) := by decide +kernel
theorem d_F_gate_19 : decode b_F_gate 19 = .ok (.iload_n 1, 1) := by decide +kernel
theorem d_F_gate_20 : decode b_F_gate 20 = .ok (.iconst 2, 1) := by decide +kernel
theorem d_F_gate_21 : decode b_F_gate 21 = .ok (.if_icmp .ne 16, 3) := by decide +kernel
theorem d_F_gate_24 : decode b_F_gate 24 = .ok (.iload_n 2, 1) := by decide +kernel
theorem d_F_gate_25 : decode b_F_gate 25 = .ok (.iconst 1, 1) := by decide +kernel
theorem d_F_gate_26 : decode b_F_gate 26 = .ok (.if_icmp .lt 15, 3) := by decide +kernel
theorem d_F_gate_29 : decode b_F_gate 29 = .ok (.iload_n 2, 1) := by decide +kernel
theorem d_F_gate_30 : decode b_F_gate 30 = .ok (.iconst 4, 1) := by decide +kernel
theorem d_F_gate_31 : decode b_F_gate 31 = .ok (.if_icmp .le 20, 3) := by decide +kernel
theorem d_F_gate_34 : decode b_F_gate 34 = .ok (.goto 7, 3) := by decide +kernel
theorem d_F_gate_37 : decode b_F_gate 37 = .ok (.iload_n 2, 1) := by decide +kernel
theorem d_F_gate_38 : decode b_F_gate 38 = .ok (.ifCond .eq 13, 3) := by decide +kernel
theorem d_F_gate_41 : decode b_F_gate 41 = .ok (.new 90, 3) := by decide +kernel
theorem d_F_gate_44 : decode b_F_gate 44 = .ok (.dup, 1) := by decide +kernel
theorem d_F_gate_45 : decode b_F_gate 45 = .ok (.ldc 100, 2) := by decide +kernel
theorem d_F_gate_47 : decode b_F_gate 47 = .ok (.invokespecial 94, 3) := by decide +kernel
theorem d_F_gate_50 : decode b_F_gate 50 = .ok (.athrow, 1) := by decide +kernel
theorem d_F_gate_51 : decode b_F_gate 51 = .ok (.aload_n 0, 1) := by decide +kernel
theorem d_F_gate_52 : decode b_F_gate 52 = .ok (.getfield 19, 3) := by decide +kernel
theorem d_F_gate_55 : decode b_F_gate 55 = .ok (.getfield 102, 3) := by decide +kernel
theorem d_F_gate_58 : decode b_F_gate 58 = .ok (.bipush 12, 2) := by decide +kernel
theorem d_F_gate_60 : decode b_F_gate 60 = .ok (.if_icmp .lt 13, 3) := by decide +kernel
theorem d_F_gate_63 : decode b_F_gate 63 = .ok (.new 69, 3) := by decide +kernel
theorem d_F_gate_66 : decode b_F_gate 66 = .ok (.dup, 1) := by decide +kernel
theorem d_F_gate_67 : decode b_F_gate 67 = .ok (.ldc 103, 2) := by decide +kernel
theorem d_F_gate_69 : decode b_F_gate 69 = .ok (.invokespecial 73, 3) := by decide +kernel
theorem d_F_gate_72 : decode b_F_gate 72 = .ok (.athrow, 1) := by decide +kernel
theorem d_F_gate_73 : decode b_F_gate 73 = .ok (.aload_n 0, 1) := by decide +kernel
theorem d_F_gate_74 : decode b_F_gate 74 = .ok (.getfield 19, 3) := by decide +kernel
theorem d_F_gate_77 : decode b_F_gate 77 = .ok (.iload_n 1, 1) := by decide +kernel
theorem d_F_gate_78 : decode b_F_gate 78 = .ok (.iload_n 2, 1) := by decide +kernel
theorem d_F_gate_79 : decode b_F_gate 79 = .ok (.invokevirtual 105, 3) := by decide +kernel
theorem d_F_gate_82 : decode b_F_gate 82 = .ok (.ireturn, 1) := by decide +kernel
def rm_F_gate : Room := { frames := 6, cells := 8, slots := 48, locals := 110 }
def f_F_gate_9 (fu : Nat) (w : List va_E) : Option ((String ⊕ Int32) × List va_E) := (some (Sum.inl "java/lang/IllegalArgumentException", w))
def f_F_gate_51 (fu : Nat) (v0 : Nat) (v1 : Int32) (v2 : Int32) (w : List va_E) : Option ((String ⊕ Int32) × List va_E) := ((hp_gr w v0 6 1).bind fun q1 => ((hp_gi w q1 2 4).bind fun x2 => (if x2 < (12 : Int32) then ((hp_gr w v0 6 1).bind fun q3 => ((hp_is w q3 2).bind fun _ => ((f_G_add fu q3 v1 v2 w).bind fun r4 => (some (Sum.inr r4.1, r4.2))))) else (some (Sum.inl "java/lang/IllegalStateException", w)))))
def f_F_gate_41 (fu : Nat) (w : List va_E) : Option ((String ⊕ Int32) × List va_E) := (some (Sum.inl "java/lang/IllegalArgumentException", w))
def f_F_gate (fu : Nat) (v0 : Nat) (v1 : Int32) (v2 : Int32) (w : List va_E) : Option ((String ⊕ Int32) × List va_E) := (if v1 < 0 then (f_F_gate_9 fu w) else (if v1 ≤ (4 : Int32) then (if v1 = (2 : Int32) then (if v2 < (1 : Int32) then (f_F_gate_41 fu w) else (if v2 ≤ (4 : Int32) then (f_F_gate_51 fu (v0) (v1) (v2) w) else (f_F_gate_41 fu w))) else (if v2 = 0 then (f_F_gate_51 fu (v0) (v1) (v2) w) else (f_F_gate_41 fu w))) else (f_F_gate_9 fu w)))
section
variable {p : Program} {l : Launch} {e : Env} {s : State} {m : MethodId} {args : Array Value} {below : List Frame} {meth : Method} {c : Code} {D : va_G} {ca : Nat → Nat} {A : Nat → Prop} {ad : Nat → Nat}
set_option maxRecDepth 100000 in
set_option maxHeartbeats 4000000 in
theorem v_F_gate_9 (K : av_K p s m args meth c D cl8 ca A b_F_gate 3 R_F WS) (G : av_G NS tabON A s s.heap) (X : av_X A s s.heap) (hx : ∀ x ∈ c.exceptionTable.toList, False) (hl : l.stackTraces = false) (hr : meth.sig.returnType = some .int) (fu : Nat) {r : (String ⊕ Int32) × List va_E} (w : List va_E) (h : f_F_gate_9 fu w = some r) : av_XVI p l e rm_F_gate s m args below meth c D cl8 A ad ca 3 8 48 r 0 0 9 [none, none, none] [] w := by
  unfold f_F_gate_9 at h
  obtain rfl := Option.some.inj h
  exact av_throw K X hx hl rfl (by decide) (text := "no such kind") (by decide) xk_90 xi_90 x1_94 x2_94 x3_94 x4_90 d_F_gate_9 d_F_gate_12 d_F_gate_13 d_F_gate_15 d_F_gate_18 (Nat.le_of_ble_eq_true rfl) (Nat.le_of_ble_eq_true rfl) (Nat.le_of_ble_eq_true rfl) (Nat.le_of_ble_eq_true rfl) (Nat.le_of_ble_eq_true rfl) (Nat.le_of_ble_eq_true rfl) rfl
set_option maxRecDepth 100000 in
set_option maxHeartbeats 4000000 in
theorem v_F_gate_51 (K : av_K p s m args meth c D cl8 ca A b_F_gate 3 R_F WS) (G : av_G NS tabON A s s.heap) (X : av_X A s s.heap) (hx : ∀ x ∈ c.exceptionTable.toList, False) (hl : l.stackTraces = false) (hr : meth.sig.returnType = some .int) (fu : Nat) {r : (String ⊕ Int32) × List va_E} (v0 : Nat) (v1 : Int32) (v2 : Int32) (w : List va_E) (h : f_F_gate_51 fu v0 v1 v2 w = some r) : av_XVI p l e rm_F_gate s m args below meth c D cl8 A ad ca 3 8 48 r 0 0 51 [some (.ref v0), some (.int v1), some (.int v2)] [] w := by
  unfold f_F_gate_51 at h
  refine av_aload_n K d_F_gate_51 rfl rfl ?_
  obtain ⟨q1, eq1, h⟩ := hp_bd h
  refine hv_gr K fl_F_19 d_F_gate_52 eq1 ?_
  obtain ⟨x2, ex2, h⟩ := hp_bd h
  refine hv_giN K G fl_F_102 d_F_gate_55 ex2 ?_
  refine av_bipush (v := (12 : Int32)) K d_F_gate_58 (by decide) ?_
  refine av_icmp_lt (tgt := 73) K d_F_gate_60 rfl (fun hc => ?_) (fun hc => ?_)
  · rw [if_pos hc] at h
    refine av_aload_n K d_F_gate_73 rfl rfl ?_
    obtain ⟨q3, eq3, h⟩ := hp_bd h
    refine hv_gr K fl_F_19 d_F_gate_74 eq3 ?_
    refine av_iload_n K d_F_gate_77 rfl rfl ?_
    refine av_iload_n K d_F_gate_78 rfl rfl ?_
    obtain ⟨_, eo79, h⟩ := hp_bd h
    obtain ⟨r4, er4, h⟩ := hp_bd h
    obtain ⟨fs79, ho79⟩ := hp_is_of eo79
    refine av_cVi K G (c_G_add (tab := tabON) er4) (cwV 2 K.2.2.2.2.1 (gV ml_F_105 im_G_add se_G_add in_G co_G_add) rfl rfl rfl cd_G_add ⟨Nat.le_of_ble_eq_true rfl, Nat.le_of_ble_eq_true rfl⟩) rfl ho79 rfl rfl (Nat.le_of_ble_eq_true rfl) d_F_gate_79 ⟨Nat.le_of_ble_eq_true rfl, Nat.le_of_ble_eq_true rfl⟩ (fun a9 u9 h9 => ?_)
    obtain ⟨rfl, rfl⟩ : a9 = r4.1 ∧ u9 = r4.2 := ⟨congrArg Prod.fst h9, congrArg Prod.snd h9⟩
    obtain rfl := Option.some.inj h
    exact av_xret (av_ireturn K hr d_F_gate_82 rfl) (Nat.le_of_ble_eq_true rfl) (Nat.le_of_ble_eq_true rfl)
  · rw [if_neg hc] at h
    obtain rfl := Option.some.inj h
    exact av_throw K X hx hl rfl (by decide) (text := "no room for another gate") (by decide) xk_69 xi_69 x1_73 x2_73 x3_73 x4_69 d_F_gate_63 d_F_gate_66 d_F_gate_67 d_F_gate_69 d_F_gate_72 (Nat.le_of_ble_eq_true rfl) (Nat.le_of_ble_eq_true rfl) (Nat.le_of_ble_eq_true rfl) (Nat.le_of_ble_eq_true rfl) (Nat.le_of_ble_eq_true rfl) (Nat.le_of_ble_eq_true rfl) rfl
set_option maxRecDepth 100000 in
set_option maxHeartbeats 4000000 in
theorem v_F_gate_41 (K : av_K p s m args meth c D cl8 ca A b_F_gate 3 R_F WS) (G : av_G NS tabON A s s.heap) (X : av_X A s s.heap) (hx : ∀ x ∈ c.exceptionTable.toList, False) (hl : l.stackTraces = false) (hr : meth.sig.returnType = some .int) (fu : Nat) {r : (String ⊕ Int32) × List va_E} (w : List va_E) (h : f_F_gate_41 fu w = some r) : av_XVI p l e rm_F_gate s m args below meth c D cl8 A ad ca 3 8 48 r 0 0 41 [none, none, none] [] w := by
  unfold f_F_gate_41 at h
  obtain rfl := Option.some.inj h
  exact av_throw K X hx hl rfl (by decide) (text := "no such k for the kind") (by decide) xk_90 xi_90 x1_94 x2_94 x3_94 x4_90 d_F_gate_41 d_F_gate_44 d_F_gate_45 d_F_gate_47 d_F_gate_50 (Nat.le_of_ble_eq_true rfl) (Nat.le_of_ble_eq_true rfl) (Nat.le_of_ble_eq_true rfl) (Nat.le_of_ble_eq_true rfl) (Nat.le_of_ble_eq_true rfl) (Nat.le_of_ble_eq_true rfl) rfl
set_option maxRecDepth 100000 in
set_option maxHeartbeats 4000000 in
theorem v_F_gate (K : av_K p s m args meth c D cl8 ca A b_F_gate 3 R_F WS) (G : av_G NS tabON A s s.heap) (X : av_X A s s.heap) (hx : ∀ x ∈ c.exceptionTable.toList, False) (hl : l.stackTraces = false) (hr : meth.sig.returnType = some .int) (fu : Nat) {r : (String ⊕ Int32) × List va_E} (v0 : Nat) (v1 : Int32) (v2 : Int32) (w : List va_E) (h : f_F_gate fu v0 v1 v2 w = some r) : av_XVI p l e rm_F_gate s m args below meth c D cl8 A ad ca 3 8 48 r 0 0 0 [some (.ref v0), some (.int v1), some (.int v2)] [] w := by
  unfold f_F_gate at h
  refine av_iload_n K d_F_gate_0 rfl rfl ?_
  refine av_if_lt (tgt := 9) K d_F_gate_1 rfl (fun hc => ?_) (fun hc => ?_)
  · rw [if_pos hc] at h
    refine av_wd (k := 0) (n := 0) (Nat.le_of_ble_eq_true rfl) (Nat.le_of_ble_eq_true rfl) ?_
    refine hv_fg (L' := [none, none, none]) [0, 1, 2] rfl ?_
    exact v_F_gate_9 K G X hx hl hr fu _ h
  · rw [if_neg hc] at h
    refine av_iload_n K d_F_gate_4 rfl rfl ?_
    refine av_iconst (v := (4 : Int32)) K d_F_gate_5 (by decide) ?_
    refine av_icmp_le (tgt := 19) K d_F_gate_6 rfl (fun hc => ?_) (fun hc => ?_)
    · rw [if_pos hc] at h
      refine av_iload_n K d_F_gate_19 rfl rfl ?_
      refine av_iconst (v := (2 : Int32)) K d_F_gate_20 (by decide) ?_
      refine av_icmp_ne (tgt := 37) K d_F_gate_21 rfl (fun hc => ?_) (fun hc => ?_)
      · rw [if_neg hc] at h
        refine av_iload_n K d_F_gate_37 rfl rfl ?_
        refine av_if_eq (tgt := 51) K d_F_gate_38 rfl (fun hc => ?_) (fun hc => ?_)
        · rw [if_pos hc] at h
          refine av_wd (k := 0) (n := 0) (Nat.le_of_ble_eq_true rfl) (Nat.le_of_ble_eq_true rfl) ?_
          exact v_F_gate_51 K G X hx hl hr fu (v0) (v1) (v2) _ h
        · rw [if_neg hc] at h
          refine av_wd (k := 0) (n := 0) (Nat.le_of_ble_eq_true rfl) (Nat.le_of_ble_eq_true rfl) ?_
          refine hv_fg (L' := [none, none, none]) [0, 1, 2] rfl ?_
          exact v_F_gate_41 K G X hx hl hr fu _ h
      · rw [if_pos hc] at h
        refine av_iload_n K d_F_gate_24 rfl rfl ?_
        refine av_iconst (v := (1 : Int32)) K d_F_gate_25 (by decide) ?_
        refine av_icmp_lt (tgt := 41) K d_F_gate_26 rfl (fun hc => ?_) (fun hc => ?_)
        · rw [if_pos hc] at h
          refine av_wd (k := 0) (n := 0) (Nat.le_of_ble_eq_true rfl) (Nat.le_of_ble_eq_true rfl) ?_
          refine hv_fg (L' := [none, none, none]) [0, 1, 2] rfl ?_
          exact v_F_gate_41 K G X hx hl hr fu _ h
        · rw [if_neg hc] at h
          refine av_iload_n K d_F_gate_29 rfl rfl ?_
          refine av_iconst (v := (4 : Int32)) K d_F_gate_30 (by decide) ?_
          refine av_icmp_le (tgt := 51) K d_F_gate_31 rfl (fun hc => ?_) (fun hc => ?_)
          · rw [if_pos hc] at h
            refine av_wd (k := 0) (n := 0) (Nat.le_of_ble_eq_true rfl) (Nat.le_of_ble_eq_true rfl) ?_
            exact v_F_gate_51 K G X hx hl hr fu (v0) (v1) (v2) _ h
          · rw [if_neg hc] at h
            refine av_goto (tgt := 41) K d_F_gate_34 rfl ?_
            refine av_wd (k := 0) (n := 0) (Nat.le_of_ble_eq_true rfl) (Nat.le_of_ble_eq_true rfl) ?_
            refine hv_fg (L' := [none, none, none]) [0, 1, 2] rfl ?_
            exact v_F_gate_41 K G X hx hl hr fu _ h
    · rw [if_neg hc] at h
      refine av_wd (k := 0) (n := 0) (Nat.le_of_ble_eq_true rfl) (Nat.le_of_ble_eq_true rfl) ?_
      refine hv_fg (L' := [none, none, none]) [0, 1, 2] rfl ?_
      exact v_F_gate_9 K G X hx hl hr fu _ h
end
set_option maxRecDepth 100000 in
theorem c_F_gate {l : Launch} {D : va_G} {ca : Nat → Nat} (hl : l.stackTraces = false) {fu : Nat} {v0 : Nat} {v1 : Int32} {v2 : Int32} {w : List va_E} {r : (String ⊕ Int32) × List va_E} (h : f_F_gate fu v0 v1 v2 w = some r) : av_Xi l D cl8 ca NS tabON y_F_gate w_F_gate rm_F_gate 8 48 [.ref v0, .int v1, .int v2] w (fun v u => (Sum.inr v, u) = r) (fun E u => (Sum.inl E, u) = r) :=
  av_inXI (cc := b_F_gate) (nL := 3) (by decide +kernel) rfl (Nat.le_of_ble_eq_true rfl) (fun p e s m args below meth c A ad K G X hx hr => v_F_gate K G X hx hl hr fu v0 v1 v2 w h)

-- FaultTreeDesk.input(II)I
theorem d_F_input_0 : decode b_F_input 0 = .ok (.aload_n 0, 1) := by decide +kernel
theorem d_F_input_1 : decode b_F_input 1 = .ok (.iload_n 1, 1) := by decide +kernel
theorem d_F_input_2 : decode b_F_input 2 = .ok (.invokevirtual 108, 3) := by decide +kernel
theorem d_F_input_5 : decode b_F_input 5 = .ok (.aload_n 0, 1) := by decide +kernel
theorem d_F_input_6 : decode b_F_input 6 = .ok (.getfield 12, 3) := by decide +kernel
theorem d_F_input_9 : decode b_F_input 9 = .ok (.iload_n 2, 1) := by decide +kernel
theorem d_F_input_10 : decode b_F_input 10 = .ok (.invokevirtual 111, 3) := by decide +kernel
theorem d_F_input_13 : decode b_F_input 13 = .ok (.ifCond .ne 24, 3) := by decide +kernel
theorem d_F_input_16 : decode b_F_input 16 = .ok (.aload_n 0, 1) := by decide +kernel
theorem d_F_input_17 : decode b_F_input 17 = .ok (.getfield 19, 3) := by decide +kernel
theorem d_F_input_20 : decode b_F_input 20 = .ok (.iload_n 2, 1) := by decide +kernel
theorem d_F_input_21 : decode b_F_input 21 = .ok (.invokevirtual 115, 3) := by decide +kernel
theorem d_F_input_24 : decode b_F_input 24 = .ok (.ifCond .ne 13, 3) := by decide +kernel
theorem d_F_input_27 : decode b_F_input 27 = .ok (.new 90, 3) := by decide +kernel
theorem d_F_input_30 : decode b_F_input 30 = .ok (.dup, 1) := by decide +kernel
theorem d_F_input_31 : decode b_F_input 31 = .ok (.ldc 118, 2) := by decide +kernel
theorem d_F_input_33 : decode b_F_input 33 = .ok (.invokespecial 94, 3) := by decide +kernel
theorem d_F_input_36 : decode b_F_input 36 = .ok (.athrow, 1) := by decide +kernel
theorem d_F_input_37 : decode b_F_input 37 = .ok (.aload_n 0, 1) := by decide +kernel
theorem d_F_input_38 : decode b_F_input 38 = .ok (.getfield 19, 3) := by decide +kernel
theorem d_F_input_41 : decode b_F_input 41 = .ok (.iload_n 1, 1) := by decide +kernel
theorem d_F_input_42 : decode b_F_input 42 = .ok (.iload_n 2, 1) := by decide +kernel
theorem d_F_input_43 : decode b_F_input 43 = .ok (.invokevirtual 120, 3) := by decide +kernel
theorem d_F_input_46 : decode b_F_input 46 = .ok (.ifCond .ne 14, 3) := by decide +kernel
theorem d_F_input_49 : decode b_F_input 49 = .ok (.aload_n 0, 1) := by decide +kernel
theorem d_F_input_50 : decode b_F_input 50 = .ok (.getfield 19, 3) := by decide +kernel
theorem d_F_input_53 : decode b_F_input 53 = .ok (.iload_n 1, 1) := by decide +kernel
theorem d_F_input_54 : decode b_F_input 54 = .ok (.invokevirtual 124, 3) := by decide +kernel
theorem d_F_input_57 : decode b_F_input 57 = .ok (.ifCond .eq 13, 3) := by decide +kernel
theorem d_F_input_60 : decode b_F_input 60 = .ok (.new 69, 3) := by decide +kernel
theorem d_F_input_63 : decode b_F_input 63 = .ok (.dup, 1) := by decide +kernel
theorem d_F_input_64 : decode b_F_input 64 = .ok (.ldc 127, 2) := by decide +kernel
theorem d_F_input_66 : decode b_F_input 66 = .ok (.invokespecial 73, 3) := by decide +kernel
theorem d_F_input_69 : decode b_F_input 69 = .ok (.athrow, 1) := by decide +kernel
theorem d_F_input_70 : decode b_F_input 70 = .ok (.aload_n 0, 1) := by decide +kernel
theorem d_F_input_71 : decode b_F_input 71 = .ok (.getfield 19, 3) := by decide +kernel
theorem d_F_input_74 : decode b_F_input 74 = .ok (.iload_n 1, 1) := by decide +kernel
theorem d_F_input_75 : decode b_F_input 75 = .ok (.iload_n 2, 1) := by decide +kernel
theorem d_F_input_76 : decode b_F_input 76 = .ok (.invokevirtual 129, 3) := by decide +kernel
theorem d_F_input_79 : decode b_F_input 79 = .ok (.ifCond .eq 13, 3) := by decide +kernel
theorem d_F_input_82 : decode b_F_input 82 = .ok (.new 132, 3) := by decide +kernel
theorem d_F_input_85 : decode b_F_input 85 = .ok (.dup, 1) := by decide +kernel
theorem d_F_input_86 : decode b_F_input 86 = .ok (.ldc 134, 2) := by decide +kernel
theorem d_F_input_88 : decode b_F_input 88 = .ok (.invokespecial 136, 3) := by decide +kernel
theorem d_F_input_91 : decode b_F_input 91 = .ok (.athrow, 1) := by decide +kernel
theorem d_F_input_92 : decode b_F_input 92 = .ok (.aload_n 0, 1) := by decide +kernel
theorem d_F_input_93 : decode b_F_input 93 = .ok (.invokevirtual 76, 3) := by decide +kernel
theorem d_F_input_96 : decode b_F_input 96 = .ok (.aload_n 0, 1) := by decide +kernel
theorem d_F_input_97 : decode b_F_input 97 = .ok (.getfield 19, 3) := by decide +kernel
theorem d_F_input_100 : decode b_F_input 100 = .ok (.iload_n 1, 1) := by decide +kernel
theorem d_F_input_101 : decode b_F_input 101 = .ok (.iload_n 2, 1) := by decide +kernel
theorem d_F_input_102 : decode b_F_input 102 = .ok (.invokevirtual 137, 3) := by decide +kernel
theorem d_F_input_105 : decode b_F_input 105 = .ok (.ireturn, 1) := by decide +kernel
def rm_F_input : Room := { frames := 7, cells := 8, slots := 48, locals := 131 }
def f_F_input_60 (fu : Nat) (w : List va_E) : Option ((String ⊕ Int32) × List va_E) := (some (Sum.inl "java/lang/IllegalStateException", w))
def f_F_input_37 (fu : Nat) (v0 : Nat) (v1 : Int32) (v2 : Int32) (w : List va_E) : Option ((String ⊕ Int32) × List va_E) := ((hp_gr w v0 6 1).bind fun q1 => ((hp_is w q1 2).bind fun _ => ((f_G_isChild fu q1 v1 v2 w).bind fun r2 => (if r2.1 = 0 then ((hp_gr r2.2 v0 6 1).bind fun q3 => ((hp_is r2.2 q3 2).bind fun _ => ((f_G_isFull fu q3 v1 r2.2).bind fun r4 => (if r4.1 = 0 then ((hp_gr r4.2 v0 6 1).bind fun q5 => ((hp_is r4.2 q5 2).bind fun _ => ((f_G_wouldLoop fu q5 v1 v2 r4.2).bind fun r6 => (if r6.1 = 0 then ((hp_is r6.2 v0 6).bind fun _ => ((f_F_forgetAnswers fu v0 r6.2).bind fun r7 => ((hp_gr r7 v0 6 1).bind fun q8 => ((hp_is r7 q8 2).bind fun _ => ((f_G_join fu q8 v1 v2 r7).bind fun r9 => (some (Sum.inr r9.1, r9.2))))))) else (some (Sum.inl "java/lang/UnsupportedOperationException", r6.2)))))) else (f_F_input_60 fu r4.2))))) else (f_F_input_60 fu r2.2)))))
def f_F_input (fu : Nat) (v0 : Nat) (v1 : Int32) (v2 : Int32) (w : List va_E) : Option ((String ⊕ Int32) × List va_E) := ((hp_is w v0 6).bind fun _ => (hx_bd (f_F_needGate fu v0 v1 w) fun _ u3 => ((hp_gr u3 v0 6 0).bind fun q4 => ((hp_is u3 q4 1).bind fun _ => ((f_E_has fu q4 v2 u3).bind fun r5 => (if r5.1 = 0 then ((hp_gr r5.2 v0 6 1).bind fun q6 => ((hp_is r5.2 q6 2).bind fun _ => ((f_G_hasCode fu q6 v2 r5.2).bind fun r7 => (if r7.1 = 0 then (some (Sum.inl "java/lang/IllegalArgumentException", r7.2)) else (f_F_input_37 fu (v0) (v1) (v2) r7.2))))) else (f_F_input_37 fu (v0) (v1) (v2) r5.2)))))))
section
variable {p : Program} {l : Launch} {e : Env} {s : State} {m : MethodId} {args : Array Value} {below : List Frame} {meth : Method} {c : Code} {D : va_G} {ca : Nat → Nat} {A : Nat → Prop} {ad : Nat → Nat}
set_option maxRecDepth 100000 in
set_option maxHeartbeats 4000000 in
theorem v_F_input_60 (K : av_K p s m args meth c D cl8 ca A b_F_input 3 R_F WS) (G : av_G NS tabON A s s.heap) (X : av_X A s s.heap) (hx : ∀ x ∈ c.exceptionTable.toList, False) (hl : l.stackTraces = false) (hr : meth.sig.returnType = some .int) (fu : Nat) {r : (String ⊕ Int32) × List va_E} (w : List va_E) (h : f_F_input_60 fu w = some r) : av_XVI p l e rm_F_input s m args below meth c D cl8 A ad ca 3 8 48 r 1 6 60 [none, none, none] [] w := by
  unfold f_F_input_60 at h
  obtain rfl := Option.some.inj h
  exact av_throw K X hx hl rfl (by decide) (text := "the gate has it, or no room") (by decide) xk_69 xi_69 x1_73 x2_73 x3_73 x4_69 d_F_input_60 d_F_input_63 d_F_input_64 d_F_input_66 d_F_input_69 (Nat.le_of_ble_eq_true rfl) (Nat.le_of_ble_eq_true rfl) (Nat.le_of_ble_eq_true rfl) (Nat.le_of_ble_eq_true rfl) (Nat.le_of_ble_eq_true rfl) (Nat.le_of_ble_eq_true rfl) rfl
set_option maxRecDepth 100000 in
set_option maxHeartbeats 4000000 in
theorem v_F_input_37 (K : av_K p s m args meth c D cl8 ca A b_F_input 3 R_F WS) (G : av_G NS tabON A s s.heap) (X : av_X A s s.heap) (hx : ∀ x ∈ c.exceptionTable.toList, False) (hl : l.stackTraces = false) (hr : meth.sig.returnType = some .int) (fu : Nat) {r : (String ⊕ Int32) × List va_E} (v0 : Nat) (v1 : Int32) (v2 : Int32) (w : List va_E) (h : f_F_input_37 fu v0 v1 v2 w = some r) : av_XVI p l e rm_F_input s m args below meth c D cl8 A ad ca 3 8 48 r 1 6 37 [some (.ref v0), some (.int v1), some (.int v2)] [] w := by
  unfold f_F_input_37 at h
  refine av_aload_n K d_F_input_37 rfl rfl ?_
  obtain ⟨q1, eq1, h⟩ := hp_bd h
  refine hv_gr K fl_F_19 d_F_input_38 eq1 ?_
  refine av_iload_n K d_F_input_41 rfl rfl ?_
  refine av_iload_n K d_F_input_42 rfl rfl ?_
  obtain ⟨_, eo43, h⟩ := hp_bd h
  obtain ⟨r2, er2, h⟩ := hp_bd h
  obtain ⟨fs43, ho43⟩ := hp_is_of eo43
  refine av_cVi K G (c_G_isChild (tab := tabON) er2) (cwV 2 K.2.2.2.2.1 (gV ml_F_120 im_G_isChild se_G_isChild in_G co_G_isChild) rfl rfl rfl cd_G_isChild ⟨Nat.le_of_ble_eq_true rfl, Nat.le_of_ble_eq_true rfl⟩) rfl ho43 rfl rfl (Nat.le_of_ble_eq_true rfl) d_F_input_43 ⟨Nat.le_of_ble_eq_true rfl, Nat.le_of_ble_eq_true rfl⟩ (fun a9 u9 h9 => ?_)
  obtain ⟨rfl, rfl⟩ : a9 = r2.1 ∧ u9 = r2.2 := ⟨congrArg Prod.fst h9, congrArg Prod.snd h9⟩
  refine av_if_ne (tgt := 60) K d_F_input_46 rfl (fun hc => ?_) (fun hc => ?_)
  · rw [if_neg hc] at h
    refine av_wd (k := 1) (n := 6) (Nat.le_of_ble_eq_true rfl) (Nat.le_of_ble_eq_true rfl) ?_
    refine hv_fg (L' := [none, none, none]) [0, 1, 2] rfl ?_
    exact v_F_input_60 K G X hx hl hr fu _ h
  · rw [if_pos hc] at h
    refine av_aload_n K d_F_input_49 rfl rfl ?_
    obtain ⟨q3, eq3, h⟩ := hp_bd h
    refine hv_gr K fl_F_19 d_F_input_50 eq3 ?_
    refine av_iload_n K d_F_input_53 rfl rfl ?_
    obtain ⟨_, eo54, h⟩ := hp_bd h
    obtain ⟨r4, er4, h⟩ := hp_bd h
    obtain ⟨fs54, ho54⟩ := hp_is_of eo54
    refine av_cVi K G (c_G_isFull (tab := tabON) er4) (cwV 1 K.2.2.2.2.1 (gV ml_F_124 im_G_isFull se_G_isFull in_G co_G_isFull) rfl rfl rfl cd_G_isFull ⟨Nat.le_of_ble_eq_true rfl, Nat.le_of_ble_eq_true rfl⟩) rfl ho54 rfl rfl (Nat.le_of_ble_eq_true rfl) d_F_input_54 ⟨Nat.le_of_ble_eq_true rfl, Nat.le_of_ble_eq_true rfl⟩ (fun a9 u9 h9 => ?_)
    obtain ⟨rfl, rfl⟩ : a9 = r4.1 ∧ u9 = r4.2 := ⟨congrArg Prod.fst h9, congrArg Prod.snd h9⟩
    refine av_if_eq (tgt := 70) K d_F_input_57 rfl (fun hc => ?_) (fun hc => ?_)
    · rw [if_pos hc] at h
      refine av_aload_n K d_F_input_70 rfl rfl ?_
      obtain ⟨q5, eq5, h⟩ := hp_bd h
      refine hv_gr K fl_F_19 d_F_input_71 eq5 ?_
      refine av_iload_n K d_F_input_74 rfl rfl ?_
      refine av_iload_n K d_F_input_75 rfl rfl ?_
      obtain ⟨_, eo76, h⟩ := hp_bd h
      obtain ⟨r6, er6, h⟩ := hp_bd h
      obtain ⟨fs76, ho76⟩ := hp_is_of eo76
      refine av_cVi K G (c_G_wouldLoop (tab := tabON) er6) (cwV 2 K.2.2.2.2.1 (gV ml_F_129 im_G_wouldLoop se_G_wouldLoop in_G co_G_wouldLoop) rfl rfl rfl cd_G_wouldLoop ⟨Nat.le_of_ble_eq_true rfl, Nat.le_of_ble_eq_true rfl⟩) rfl ho76 rfl rfl (Nat.le_of_ble_eq_true rfl) d_F_input_76 ⟨Nat.le_of_ble_eq_true rfl, Nat.le_of_ble_eq_true rfl⟩ (fun a9 u9 h9 => ?_)
      obtain ⟨rfl, rfl⟩ : a9 = r6.1 ∧ u9 = r6.2 := ⟨congrArg Prod.fst h9, congrArg Prod.snd h9⟩
      refine av_if_eq (tgt := 92) K d_F_input_79 rfl (fun hc => ?_) (fun hc => ?_)
      · rw [if_pos hc] at h
        refine av_aload_n K d_F_input_92 rfl rfl ?_
        obtain ⟨_, eo93, h⟩ := hp_bd h
        obtain ⟨r7, er7, h⟩ := hp_bd h
        obtain ⟨fs93, ho93⟩ := hp_is_of eo93
        refine av_cVv K G (c_F_forgetAnswers (tab := tabON) er7) (cwV 0 K.2.2.2.2.1 (gV ml_F_76 im_F_forgetAnswers se_F_forgetAnswers in_F co_F_forgetAnswers) rfl rfl rfl cd_F_forgetAnswers ⟨Nat.le_of_ble_eq_true rfl, Nat.le_of_ble_eq_true rfl⟩) rfl ho93 rfl rfl (Nat.le_of_ble_eq_true rfl) d_F_input_93 ⟨Nat.le_of_ble_eq_true rfl, Nat.le_of_ble_eq_true rfl⟩ (fun u9 h9 => ?_)
        subst h9
        refine av_aload_n K d_F_input_96 rfl rfl ?_
        obtain ⟨q8, eq8, h⟩ := hp_bd h
        refine hv_gr K fl_F_19 d_F_input_97 eq8 ?_
        refine av_iload_n K d_F_input_100 rfl rfl ?_
        refine av_iload_n K d_F_input_101 rfl rfl ?_
        obtain ⟨_, eo102, h⟩ := hp_bd h
        obtain ⟨r9, er9, h⟩ := hp_bd h
        obtain ⟨fs102, ho102⟩ := hp_is_of eo102
        refine av_cVi K G (c_G_join (tab := tabON) er9) (cwV 2 K.2.2.2.2.1 (gV ml_F_137 im_G_join se_G_join in_G co_G_join) rfl rfl rfl cd_G_join ⟨Nat.le_of_ble_eq_true rfl, Nat.le_of_ble_eq_true rfl⟩) rfl ho102 rfl rfl (Nat.le_of_ble_eq_true rfl) d_F_input_102 ⟨Nat.le_of_ble_eq_true rfl, Nat.le_of_ble_eq_true rfl⟩ (fun a9 u9 h9 => ?_)
        obtain ⟨rfl, rfl⟩ : a9 = r9.1 ∧ u9 = r9.2 := ⟨congrArg Prod.fst h9, congrArg Prod.snd h9⟩
        obtain rfl := Option.some.inj h
        exact av_xret (av_ireturn K hr d_F_input_105 rfl) (Nat.le_of_ble_eq_true rfl) (Nat.le_of_ble_eq_true rfl)
      · rw [if_neg hc] at h
        obtain rfl := Option.some.inj h
        exact av_throw K X hx hl rfl (by decide) (text := "the gate would be below itself") (by decide) xk_132 xi_132 x1_136 x2_136 x3_136 x4_132 d_F_input_82 d_F_input_85 d_F_input_86 d_F_input_88 d_F_input_91 (Nat.le_of_ble_eq_true rfl) (Nat.le_of_ble_eq_true rfl) (Nat.le_of_ble_eq_true rfl) (Nat.le_of_ble_eq_true rfl) (Nat.le_of_ble_eq_true rfl) (Nat.le_of_ble_eq_true rfl) rfl
    · rw [if_neg hc] at h
      refine av_wd (k := 1) (n := 6) (Nat.le_of_ble_eq_true rfl) (Nat.le_of_ble_eq_true rfl) ?_
      refine hv_fg (L' := [none, none, none]) [0, 1, 2] rfl ?_
      exact v_F_input_60 K G X hx hl hr fu _ h
set_option maxRecDepth 100000 in
set_option maxHeartbeats 4000000 in
theorem v_F_input (K : av_K p s m args meth c D cl8 ca A b_F_input 3 R_F WS) (G : av_G NS tabON A s s.heap) (X : av_X A s s.heap) (hx : ∀ x ∈ c.exceptionTable.toList, False) (hl : l.stackTraces = false) (hr : meth.sig.returnType = some .int) (fu : Nat) {r : (String ⊕ Int32) × List va_E} (v0 : Nat) (v1 : Int32) (v2 : Int32) (w : List va_E) (h : f_F_input fu v0 v1 v2 w = some r) : av_XVI p l e rm_F_input s m args below meth c D cl8 A ad ca 3 8 48 r 0 0 0 [some (.ref v0), some (.int v1), some (.int v2)] [] w := by
  unfold f_F_input at h
  refine av_aload_n K d_F_input_0 rfl rfl ?_
  refine av_iload_n K d_F_input_1 rfl rfl ?_
  obtain ⟨_, eo2, h⟩ := hp_bd h
  obtain ⟨fs2, ho2⟩ := hp_is_of eo2
  obtain ⟨r1, er1, lr1, h⟩ := hx_of h
  refine av_xVv K G X hx (c_F_needGate hl er1) (cwV 1 K.2.2.2.2.1 (gV ml_F_108 im_F_needGate se_F_needGate in_F co_F_needGate) rfl rfl rfl cd_F_needGate ⟨(Nat.le_of_ble_eq_true rfl), (Nat.le_of_ble_eq_true rfl)⟩) rfl ho2 rfl rfl (Nat.le_of_ble_eq_true rfl) d_F_input_2 ⟨(Nat.le_of_ble_eq_true rfl), (Nat.le_of_ble_eq_true rfl)⟩ (Nat.le_of_ble_eq_true rfl) (Nat.le_of_ble_eq_true rfl) (fun E9 u9 h9 => (lr1 E9 u9 h9.symm).symm) (fun u3 h9 => ?_)
  have h := h () u3 h9.symm
  refine av_aload_n K d_F_input_5 rfl rfl ?_
  obtain ⟨q4, eq4, h⟩ := hp_bd h
  refine hv_gr K fl_F_12 d_F_input_6 eq4 ?_
  refine av_iload_n K d_F_input_9 rfl rfl ?_
  obtain ⟨_, eo10, h⟩ := hp_bd h
  obtain ⟨r5, er5, h⟩ := hp_bd h
  obtain ⟨fs10, ho10⟩ := hp_is_of eo10
  refine av_cVi K G (c_E_has (tab := tabON) er5) (cwV 1 K.2.2.2.2.1 (gV ml_F_111 im_E_has se_E_has in_E co_E_has) rfl rfl rfl cd_E_has ⟨Nat.le_of_ble_eq_true rfl, Nat.le_of_ble_eq_true rfl⟩) rfl ho10 rfl rfl (Nat.le_of_ble_eq_true rfl) d_F_input_10 ⟨Nat.le_of_ble_eq_true rfl, Nat.le_of_ble_eq_true rfl⟩ (fun a9 u9 h9 => ?_)
  obtain ⟨rfl, rfl⟩ : a9 = r5.1 ∧ u9 = r5.2 := ⟨congrArg Prod.fst h9, congrArg Prod.snd h9⟩
  refine av_if_ne (tgt := 37) K d_F_input_13 rfl (fun hc => ?_) (fun hc => ?_)
  · rw [if_neg hc] at h
    refine av_wd (k := 1) (n := 6) (Nat.le_of_ble_eq_true rfl) (Nat.le_of_ble_eq_true rfl) ?_
    exact v_F_input_37 K G X hx hl hr fu (v0) (v1) (v2) _ h
  · rw [if_pos hc] at h
    refine av_aload_n K d_F_input_16 rfl rfl ?_
    obtain ⟨q6, eq6, h⟩ := hp_bd h
    refine hv_gr K fl_F_19 d_F_input_17 eq6 ?_
    refine av_iload_n K d_F_input_20 rfl rfl ?_
    obtain ⟨_, eo21, h⟩ := hp_bd h
    obtain ⟨r7, er7, h⟩ := hp_bd h
    obtain ⟨fs21, ho21⟩ := hp_is_of eo21
    refine av_cVi K G (c_G_hasCode (tab := tabON) er7) (cwV 1 K.2.2.2.2.1 (gV ml_F_115 im_G_hasCode se_G_hasCode in_G co_G_hasCode) rfl rfl rfl cd_G_hasCode ⟨Nat.le_of_ble_eq_true rfl, Nat.le_of_ble_eq_true rfl⟩) rfl ho21 rfl rfl (Nat.le_of_ble_eq_true rfl) d_F_input_21 ⟨Nat.le_of_ble_eq_true rfl, Nat.le_of_ble_eq_true rfl⟩ (fun a9 u9 h9 => ?_)
    obtain ⟨rfl, rfl⟩ : a9 = r7.1 ∧ u9 = r7.2 := ⟨congrArg Prod.fst h9, congrArg Prod.snd h9⟩
    refine av_if_ne (tgt := 37) K d_F_input_24 rfl (fun hc => ?_) (fun hc => ?_)
    · rw [if_neg hc] at h
      refine av_wd (k := 1) (n := 6) (Nat.le_of_ble_eq_true rfl) (Nat.le_of_ble_eq_true rfl) ?_
      exact v_F_input_37 K G X hx hl hr fu (v0) (v1) (v2) _ h
    · rw [if_pos hc] at h
      obtain rfl := Option.some.inj h
      exact av_throw K X hx hl rfl (by decide) (text := "no such child") (by decide) xk_90 xi_90 x1_94 x2_94 x3_94 x4_90 d_F_input_27 d_F_input_30 d_F_input_31 d_F_input_33 d_F_input_36 (Nat.le_of_ble_eq_true rfl) (Nat.le_of_ble_eq_true rfl) (Nat.le_of_ble_eq_true rfl) (Nat.le_of_ble_eq_true rfl) (Nat.le_of_ble_eq_true rfl) (Nat.le_of_ble_eq_true rfl) rfl
end
set_option maxRecDepth 100000 in
theorem c_F_input {l : Launch} {D : va_G} {ca : Nat → Nat} (hl : l.stackTraces = false) {fu : Nat} {v0 : Nat} {v1 : Int32} {v2 : Int32} {w : List va_E} {r : (String ⊕ Int32) × List va_E} (h : f_F_input fu v0 v1 v2 w = some r) : av_Xi l D cl8 ca NS tabON y_F_input w_F_input rm_F_input 8 48 [.ref v0, .int v1, .int v2] w (fun v u => (Sum.inr v, u) = r) (fun E u => (Sum.inl E, u) = r) :=
  av_inXI (cc := b_F_input) (nL := 3) (by decide +kernel) rfl (Nat.le_of_ble_eq_true rfl) (fun p e s m args below meth c A ad K G X hx hr => v_F_input K G X hx hl hr fu v0 v1 v2 w h)

-- FaultTreeDesk.top(I)V
theorem d_F_top_0 : decode b_F_top 0 = .ok (.aload_n 0, 1) := by decide +kernel
theorem d_F_top_1 : decode b_F_top 1 = .ok (.iload_n 1, 1) := by decide +kernel
theorem d_F_top_2 : decode b_F_top 2 = .ok (.invokevirtual 108, 3) := by decide +kernel
theorem d_F_top_5 : decode b_F_top 5 = .ok (.aload_n 0, 1) := by decide +kernel
theorem d_F_top_6 : decode b_F_top 6 = .ok (.iload_n 1, 1) := by decide +kernel
theorem d_F_top_7 : decode b_F_top 7 = .ok (.putfield 51, 3) := by decide +kernel
theorem d_F_top_10 : decode b_F_top 10 = .ok (.aload_n 0, 1) := by decide +kernel
theorem d_F_top_11 : decode b_F_top 11 = .ok (.invokevirtual 76, 3) := by decide +kernel
theorem d_F_top_14 : decode b_F_top 14 = .ok (.return_, 1) := by decide +kernel
def rm_F_top : Room := { frames := 7, cells := 8, slots := 48, locals := 131 }
def f_F_top (fu : Nat) (v0 : Nat) (v1 : Int32) (w : List va_E) : Option ((String ⊕ Unit) × List va_E) := ((hp_is w v0 6).bind fun _ => (hx_bd (f_F_needGate fu v0 v1 w) fun _ u3 => ((hp_pi u3 v0 6 6 v1).bind fun w4 => ((hp_is w4 v0 6).bind fun _ => ((f_F_forgetAnswers fu v0 w4).bind fun r5 => (some (Sum.inr (), r5)))))))
section
variable {p : Program} {l : Launch} {e : Env} {s : State} {m : MethodId} {args : Array Value} {below : List Frame} {meth : Method} {c : Code} {D : va_G} {ca : Nat → Nat} {A : Nat → Prop} {ad : Nat → Nat}
set_option maxRecDepth 100000 in
set_option maxHeartbeats 4000000 in
theorem v_F_top (K : av_K p s m args meth c D cl8 ca A b_F_top 2 R_F WS) (G : av_G NS tabON A s s.heap) (X : av_X A s s.heap) (hx : ∀ x ∈ c.exceptionTable.toList, False) (hl : l.stackTraces = false) (hr : meth.sig.returnType = none) (fu : Nat) {r : (String ⊕ Unit) × List va_E} (v0 : Nat) (v1 : Int32) (w : List va_E) (h : f_F_top fu v0 v1 w = some r) : av_XVV p l e rm_F_top s m args below meth c D cl8 A ad ca 2 8 48 r 0 0 0 [some (.ref v0), some (.int v1)] [] w := by
  unfold f_F_top at h
  refine av_aload_n K d_F_top_0 rfl rfl ?_
  refine av_iload_n K d_F_top_1 rfl rfl ?_
  obtain ⟨_, eo2, h⟩ := hp_bd h
  obtain ⟨fs2, ho2⟩ := hp_is_of eo2
  obtain ⟨r1, er1, lr1, h⟩ := hx_of h
  refine av_xVv K G X hx (c_F_needGate hl er1) (cwV 1 K.2.2.2.2.1 (gV ml_F_108 im_F_needGate se_F_needGate in_F co_F_needGate) rfl rfl rfl cd_F_needGate ⟨(Nat.le_of_ble_eq_true rfl), (Nat.le_of_ble_eq_true rfl)⟩) rfl ho2 rfl rfl (Nat.le_of_ble_eq_true rfl) d_F_top_2 ⟨(Nat.le_of_ble_eq_true rfl), (Nat.le_of_ble_eq_true rfl)⟩ (Nat.le_of_ble_eq_true rfl) (Nat.le_of_ble_eq_true rfl) (fun E9 u9 h9 => (lr1 E9 u9 h9.symm).symm) (fun u3 h9 => ?_)
  have h := h () u3 h9.symm
  refine av_aload_n K d_F_top_5 rfl rfl ?_
  refine av_iload_n K d_F_top_6 rfl rfl ?_
  obtain ⟨w4, ew4, h⟩ := hp_bd h
  refine hv_pi K fp_F_51 d_F_top_7 ew4 ?_
  refine av_aload_n K d_F_top_10 rfl rfl ?_
  obtain ⟨_, eo11, h⟩ := hp_bd h
  obtain ⟨r5, er5, h⟩ := hp_bd h
  obtain ⟨fs11, ho11⟩ := hp_is_of eo11
  refine av_cVv K G (c_F_forgetAnswers (tab := tabON) er5) (cwV 0 K.2.2.2.2.1 (gV ml_F_76 im_F_forgetAnswers se_F_forgetAnswers in_F co_F_forgetAnswers) rfl rfl rfl cd_F_forgetAnswers ⟨Nat.le_of_ble_eq_true rfl, Nat.le_of_ble_eq_true rfl⟩) rfl ho11 rfl rfl (Nat.le_of_ble_eq_true rfl) d_F_top_11 ⟨Nat.le_of_ble_eq_true rfl, Nat.le_of_ble_eq_true rfl⟩ (fun u9 h9 => ?_)
  subst h9
  obtain rfl := Option.some.inj h
  exact av_xret (av_return K hr d_F_top_14 rfl) (Nat.le_of_ble_eq_true rfl) (Nat.le_of_ble_eq_true rfl)
end
set_option maxRecDepth 100000 in
theorem c_F_top {l : Launch} {D : va_G} {ca : Nat → Nat} (hl : l.stackTraces = false) {fu : Nat} {v0 : Nat} {v1 : Int32} {w : List va_E} {r : (String ⊕ Unit) × List va_E} (h : f_F_top fu v0 v1 w = some r) : av_Xv l D cl8 ca NS tabON y_F_top w_F_top rm_F_top 8 48 [.ref v0, .int v1] w (fun u => (Sum.inr (), u) = r) (fun E u => (Sum.inl E, u) = r) :=
  av_inXV (cc := b_F_top) (nL := 2) (by decide +kernel) rfl (Nat.le_of_ble_eq_true rfl) (fun p e s m args below meth c A ad K G X hx hr => v_F_top K G X hx hl hr fu v0 v1 w h)

-- FaultTreeDesk.value(I)Z
theorem d_F_value_0 : decode b_F_value 0 = .ok (.aload_n 0, 1) := by decide +kernel
theorem d_F_value_1 : decode b_F_value 1 = .ok (.invokevirtual 140, 3) := by decide +kernel
theorem d_F_value_4 : decode b_F_value 4 = .ok (.aload_n 0, 1) := by decide +kernel
theorem d_F_value_5 : decode b_F_value 5 = .ok (.invokevirtual 143, 3) := by decide +kernel
theorem d_F_value_8 : decode b_F_value 8 = .ok (.aload_n 0, 1) := by decide +kernel
theorem d_F_value_9 : decode b_F_value 9 = .ok (.getfield 26, 3) := by decide +kernel
theorem d_F_value_12 : decode b_F_value 12 = .ok (.iload_n 1, 1) := by decide +kernel
theorem d_F_value_13 : decode b_F_value 13 = .ok (.invokevirtual 146, 3) := by decide +kernel
theorem d_F_value_16 : decode b_F_value 16 = .ok (.ireturn, 1) := by decide +kernel
def rm_F_value : Room := { frames := 7, cells := 8, slots := 48, locals := 131 }
def f_F_value (fu : Nat) (v0 : Nat) (v1 : Int32) (w : List va_E) : Option ((String ⊕ Int32) × List va_E) := ((hp_is w v0 6).bind fun _ => (hx_bd (f_F_needTop fu v0 w) fun _ u3 => ((hp_is u3 v0 6).bind fun _ => ((f_F_freshenTruth fu v0 u3).bind fun r4 => ((hp_gr r4 v0 6 2).bind fun q5 => ((hp_is r4 q5 5).bind fun _ => ((f_T_isTrue fu q5 v1 r4).bind fun r6 => (if r6.1 = 0 ∨ r6.1 = 1 then some (Sum.inr r6.1, r6.2) else none))))))))
section
variable {p : Program} {l : Launch} {e : Env} {s : State} {m : MethodId} {args : Array Value} {below : List Frame} {meth : Method} {c : Code} {D : va_G} {ca : Nat → Nat} {A : Nat → Prop} {ad : Nat → Nat}
set_option maxRecDepth 100000 in
set_option maxHeartbeats 4000000 in
theorem v_F_value (K : av_K p s m args meth c D cl8 ca A b_F_value 2 R_F WS) (G : av_G NS tabON A s s.heap) (X : av_X A s s.heap) (hx : ∀ x ∈ c.exceptionTable.toList, False) (hl : l.stackTraces = false) (hr : meth.sig.returnType = some .boolean) (fu : Nat) {r : (String ⊕ Int32) × List va_E} (v0 : Nat) (v1 : Int32) (w : List va_E) (h : f_F_value fu v0 v1 w = some r) : av_XVI p l e rm_F_value s m args below meth c D cl8 A ad ca 2 8 48 r 0 0 0 [some (.ref v0), some (.int v1)] [] w := by
  unfold f_F_value at h
  refine av_aload_n K d_F_value_0 rfl rfl ?_
  obtain ⟨_, eo1, h⟩ := hp_bd h
  obtain ⟨fs1, ho1⟩ := hp_is_of eo1
  obtain ⟨r1, er1, lr1, h⟩ := hx_of h
  refine av_xVv K G X hx (c_F_needTop hl er1) (cwV 0 K.2.2.2.2.1 (gV ml_F_140 im_F_needTop se_F_needTop in_F co_F_needTop) rfl rfl rfl cd_F_needTop ⟨(Nat.le_of_ble_eq_true rfl), (Nat.le_of_ble_eq_true rfl)⟩) rfl ho1 rfl rfl (Nat.le_of_ble_eq_true rfl) d_F_value_1 ⟨(Nat.le_of_ble_eq_true rfl), (Nat.le_of_ble_eq_true rfl)⟩ (Nat.le_of_ble_eq_true rfl) (Nat.le_of_ble_eq_true rfl) (fun E9 u9 h9 => (lr1 E9 u9 h9.symm).symm) (fun u3 h9 => ?_)
  have h := h () u3 h9.symm
  refine av_aload_n K d_F_value_4 rfl rfl ?_
  obtain ⟨_, eo5, h⟩ := hp_bd h
  obtain ⟨r4, er4, h⟩ := hp_bd h
  obtain ⟨fs5, ho5⟩ := hp_is_of eo5
  refine av_cVv K G (c_F_freshenTruth (tab := tabON) er4) (cwV 0 K.2.2.2.2.1 (gV ml_F_143 im_F_freshenTruth se_F_freshenTruth in_F co_F_freshenTruth) rfl rfl rfl cd_F_freshenTruth ⟨Nat.le_of_ble_eq_true rfl, Nat.le_of_ble_eq_true rfl⟩) rfl ho5 rfl rfl (Nat.le_of_ble_eq_true rfl) d_F_value_5 ⟨Nat.le_of_ble_eq_true rfl, Nat.le_of_ble_eq_true rfl⟩ (fun u9 h9 => ?_)
  subst h9
  refine av_aload_n K d_F_value_8 rfl rfl ?_
  obtain ⟨q5, eq5, h⟩ := hp_bd h
  refine hv_gr K fl_F_26 d_F_value_9 eq5 ?_
  refine av_iload_n K d_F_value_12 rfl rfl ?_
  obtain ⟨_, eo13, h⟩ := hp_bd h
  obtain ⟨r6, er6, h⟩ := hp_bd h
  obtain ⟨fs13, ho13⟩ := hp_is_of eo13
  refine av_cVi K G (c_T_isTrue (tab := tabON) er6) (cwV 1 K.2.2.2.2.1 (gV ml_F_146 im_T_isTrue se_T_isTrue in_T co_T_isTrue) rfl rfl rfl cd_T_isTrue ⟨Nat.le_of_ble_eq_true rfl, Nat.le_of_ble_eq_true rfl⟩) rfl ho13 rfl rfl (Nat.le_of_ble_eq_true rfl) d_F_value_13 ⟨Nat.le_of_ble_eq_true rfl, Nat.le_of_ble_eq_true rfl⟩ (fun a9 u9 h9 => ?_)
  obtain ⟨rfl, rfl⟩ : a9 = r6.1 ∧ u9 = r6.2 := ⟨congrArg Prod.fst h9, congrArg Prod.snd h9⟩
  obtain ⟨hz, h⟩ := hp_if h
  obtain rfl := Option.some.inj h
  exact av_xret (av_zreturn K hr (hp_nz hz) d_F_value_16 rfl) (Nat.le_of_ble_eq_true rfl) (Nat.le_of_ble_eq_true rfl)
end
set_option maxRecDepth 100000 in
theorem c_F_value {l : Launch} {D : va_G} {ca : Nat → Nat} (hl : l.stackTraces = false) {fu : Nat} {v0 : Nat} {v1 : Int32} {w : List va_E} {r : (String ⊕ Int32) × List va_E} (h : f_F_value fu v0 v1 w = some r) : av_Xi l D cl8 ca NS tabON y_F_value w_F_value rm_F_value 8 48 [.ref v0, .int v1] w (fun v u => (Sum.inr v, u) = r) (fun E u => (Sum.inl E, u) = r) :=
  av_inXI (cc := b_F_value) (nL := 2) (by decide +kernel) rfl (Nat.le_of_ble_eq_true rfl) (fun p e s m args below meth c A ad K G X hx hr => v_F_value K G X hx hl hr fu v0 v1 w h)

-- FaultTreeDesk.odds()J
theorem d_F_odds_0 : decode b_F_odds 0 = .ok (.aload_n 0, 1) := by decide +kernel
theorem d_F_odds_1 : decode b_F_odds 1 = .ok (.invokevirtual 140, 3) := by decide +kernel
theorem d_F_odds_4 : decode b_F_odds 4 = .ok (.aload_n 0, 1) := by decide +kernel
theorem d_F_odds_5 : decode b_F_odds 5 = .ok (.invokevirtual 143, 3) := by decide +kernel
theorem d_F_odds_8 : decode b_F_odds 8 = .ok (.aload_n 0, 1) := by decide +kernel
theorem d_F_odds_9 : decode b_F_odds 9 = .ok (.getfield 33, 3) := by decide +kernel
theorem d_F_odds_12 : decode b_F_odds 12 = .ok (.aload_n 0, 1) := by decide +kernel
theorem d_F_odds_13 : decode b_F_odds 13 = .ok (.getfield 26, 3) := by decide +kernel
theorem d_F_odds_16 : decode b_F_odds 16 = .ok (.aload_n 0, 1) := by decide +kernel
theorem d_F_odds_17 : decode b_F_odds 17 = .ok (.getfield 12, 3) := by decide +kernel
theorem d_F_odds_20 : decode b_F_odds 20 = .ok (.iconst (-1), 1) := by decide +kernel
theorem d_F_odds_21 : decode b_F_odds 21 = .ok (.invokevirtual 149, 3) := by decide +kernel
theorem d_F_odds_24 : decode b_F_odds 24 = .ok (.lreturn, 1) := by decide +kernel
def rm_F_odds : Room := { frames := 7, cells := 8, slots := 48, locals := 131 }
def f_F_odds (fu : Nat) (v0 : Nat) (w : List va_E) : Option ((String ⊕ Int64) × List va_E) := ((hp_is w v0 6).bind fun _ => (hx_bd (f_F_needTop fu v0 w) fun _ u3 => ((hp_is u3 v0 6).bind fun _ => ((f_F_freshenTruth fu v0 u3).bind fun r4 => ((hp_gr r4 v0 6 3).bind fun q5 => ((hp_gr r4 v0 6 2).bind fun q6 => ((hp_gr r4 v0 6 0).bind fun q7 => ((hp_is r4 q5 3).bind fun _ => ((f_O_total fu q5 q6 q7 (-1 : Int32) r4).bind fun r8 => (some (Sum.inr r8.1, r8.2)))))))))))
section
variable {p : Program} {l : Launch} {e : Env} {s : State} {m : MethodId} {args : Array Value} {below : List Frame} {meth : Method} {c : Code} {D : va_G} {ca : Nat → Nat} {A : Nat → Prop} {ad : Nat → Nat}
set_option maxRecDepth 100000 in
set_option maxHeartbeats 4000000 in
theorem v_F_odds (K : av_K p s m args meth c D cl8 ca A b_F_odds 1 R_F WS) (G : av_G NS tabON A s s.heap) (X : av_X A s s.heap) (hx : ∀ x ∈ c.exceptionTable.toList, False) (hl : l.stackTraces = false) (hr : meth.sig.returnType = some .long) (fu : Nat) {r : (String ⊕ Int64) × List va_E} (v0 : Nat) (w : List va_E) (h : f_F_odds fu v0 w = some r) : av_XVL p l e rm_F_odds s m args below meth c D cl8 A ad ca 1 8 48 r 0 0 0 [some (.ref v0)] [] w := by
  unfold f_F_odds at h
  refine av_aload_n K d_F_odds_0 rfl rfl ?_
  obtain ⟨_, eo1, h⟩ := hp_bd h
  obtain ⟨fs1, ho1⟩ := hp_is_of eo1
  obtain ⟨r1, er1, lr1, h⟩ := hx_of h
  refine av_xVv K G X hx (c_F_needTop hl er1) (cwV 0 K.2.2.2.2.1 (gV ml_F_140 im_F_needTop se_F_needTop in_F co_F_needTop) rfl rfl rfl cd_F_needTop ⟨(Nat.le_of_ble_eq_true rfl), (Nat.le_of_ble_eq_true rfl)⟩) rfl ho1 rfl rfl (Nat.le_of_ble_eq_true rfl) d_F_odds_1 ⟨(Nat.le_of_ble_eq_true rfl), (Nat.le_of_ble_eq_true rfl)⟩ (Nat.le_of_ble_eq_true rfl) (Nat.le_of_ble_eq_true rfl) (fun E9 u9 h9 => (lr1 E9 u9 h9.symm).symm) (fun u3 h9 => ?_)
  have h := h () u3 h9.symm
  refine av_aload_n K d_F_odds_4 rfl rfl ?_
  obtain ⟨_, eo5, h⟩ := hp_bd h
  obtain ⟨r4, er4, h⟩ := hp_bd h
  obtain ⟨fs5, ho5⟩ := hp_is_of eo5
  refine av_cVv K G (c_F_freshenTruth (tab := tabON) er4) (cwV 0 K.2.2.2.2.1 (gV ml_F_143 im_F_freshenTruth se_F_freshenTruth in_F co_F_freshenTruth) rfl rfl rfl cd_F_freshenTruth ⟨Nat.le_of_ble_eq_true rfl, Nat.le_of_ble_eq_true rfl⟩) rfl ho5 rfl rfl (Nat.le_of_ble_eq_true rfl) d_F_odds_5 ⟨Nat.le_of_ble_eq_true rfl, Nat.le_of_ble_eq_true rfl⟩ (fun u9 h9 => ?_)
  subst h9
  refine av_aload_n K d_F_odds_8 rfl rfl ?_
  obtain ⟨q5, eq5, h⟩ := hp_bd h
  refine hv_gr K fl_F_33 d_F_odds_9 eq5 ?_
  refine av_aload_n K d_F_odds_12 rfl rfl ?_
  obtain ⟨q6, eq6, h⟩ := hp_bd h
  refine hv_gr K fl_F_26 d_F_odds_13 eq6 ?_
  refine av_aload_n K d_F_odds_16 rfl rfl ?_
  obtain ⟨q7, eq7, h⟩ := hp_bd h
  refine hv_gr K fl_F_12 d_F_odds_17 eq7 ?_
  refine av_iconst (v := (-1 : Int32)) K d_F_odds_20 (by decide) ?_
  obtain ⟨_, eo21, h⟩ := hp_bd h
  obtain ⟨r8, er8, h⟩ := hp_bd h
  obtain ⟨fs21, ho21⟩ := hp_is_of eo21
  refine av_cVl K G (c_O_total (tab := tabON) er8) (cwV 3 K.2.2.2.2.1 (gV ml_F_149 im_O_total se_O_total in_O co_O_total) rfl rfl rfl cd_O_total ⟨Nat.le_of_ble_eq_true rfl, Nat.le_of_ble_eq_true rfl⟩) rfl ho21 rfl rfl (Nat.le_of_ble_eq_true rfl) d_F_odds_21 ⟨Nat.le_of_ble_eq_true rfl, Nat.le_of_ble_eq_true rfl⟩ (fun a9 u9 h9 => ?_)
  obtain ⟨rfl, rfl⟩ : a9 = r8.1 ∧ u9 = r8.2 := ⟨congrArg Prod.fst h9, congrArg Prod.snd h9⟩
  obtain rfl := Option.some.inj h
  exact av_xret (av_lreturn K hr d_F_odds_24 rfl) (Nat.le_of_ble_eq_true rfl) (Nat.le_of_ble_eq_true rfl)
end
set_option maxRecDepth 100000 in
theorem c_F_odds {l : Launch} {D : va_G} {ca : Nat → Nat} (hl : l.stackTraces = false) {fu : Nat} {v0 : Nat} {w : List va_E} {r : (String ⊕ Int64) × List va_E} (h : f_F_odds fu v0 w = some r) : av_Xl l D cl8 ca NS tabON y_F_odds w_F_odds rm_F_odds 8 48 [.ref v0] w (fun v u => (Sum.inr v, u) = r) (fun E u => (Sum.inl E, u) = r) :=
  av_inXL (cc := b_F_odds) (nL := 1) (by decide +kernel) rfl (Nat.le_of_ble_eq_true rfl) (fun p e s m args below meth c A ad K G X hx hr => v_F_odds K G X hx hl hr fu v0 w h)

-- FaultTreeDesk.digit(I)I
theorem d_F_digit_0 : decode b_F_digit 0 = .ok (.iload_n 1, 1) := by decide +kernel
theorem d_F_digit_1 : decode b_F_digit 1 = .ok (.ifCond .lt 9, 3) := by decide +kernel
theorem d_F_digit_4 : decode b_F_digit 4 = .ok (.iload_n 1, 1) := by decide +kernel
theorem d_F_digit_5 : decode b_F_digit 5 = .ok (.bipush 60, 2) := by decide +kernel
theorem d_F_digit_7 : decode b_F_digit 7 = .ok (.if_icmp .le 13, 3) := by decide +kernel
theorem d_F_digit_10 : decode b_F_digit 10 = .ok (.new 90, 3) := by decide +kernel
theorem d_F_digit_13 : decode b_F_digit 13 = .ok (.dup, 1) := by decide +kernel
theorem d_F_digit_14 : decode b_F_digit 14 = .ok (.ldc 153, 2) := by decide +kernel
theorem d_F_digit_16 : decode b_F_digit 16 = .ok (.invokespecial 94, 3) := by decide +kernel
theorem d_F_digit_19 : decode b_F_digit 19 = .ok (.athrow, 1) := by decide +kernel
theorem d_F_digit_20 : decode b_F_digit 20 = .ok (.aload_n 0, 1) := by decide +kernel
theorem d_F_digit_21 : decode b_F_digit 21 = .ok (.invokevirtual 140, 3) := by decide +kernel
theorem d_F_digit_24 : decode b_F_digit 24 = .ok (.aload_n 0, 1) := by decide +kernel
theorem d_F_digit_25 : decode b_F_digit 25 = .ok (.invokevirtual 143, 3) := by decide +kernel
theorem d_F_digit_28 : decode b_F_digit 28 = .ok (.aload_n 0, 1) := by decide +kernel
theorem d_F_digit_29 : decode b_F_digit 29 = .ok (.getfield 33, 3) := by decide +kernel
theorem d_F_digit_32 : decode b_F_digit 32 = .ok (.aload_n 0, 1) := by decide +kernel
theorem d_F_digit_33 : decode b_F_digit 33 = .ok (.getfield 33, 3) := by decide +kernel
theorem d_F_digit_36 : decode b_F_digit 36 = .ok (.aload_n 0, 1) := by decide +kernel
theorem d_F_digit_37 : decode b_F_digit 37 = .ok (.getfield 26, 3) := by decide +kernel
theorem d_F_digit_40 : decode b_F_digit 40 = .ok (.aload_n 0, 1) := by decide +kernel
theorem d_F_digit_41 : decode b_F_digit 41 = .ok (.getfield 12, 3) := by decide +kernel
theorem d_F_digit_44 : decode b_F_digit 44 = .ok (.iconst (-1), 1) := by decide +kernel
theorem d_F_digit_45 : decode b_F_digit 45 = .ok (.invokevirtual 149, 3) := by decide +kernel
theorem d_F_digit_48 : decode b_F_digit 48 = .ok (.aload_n 0, 1) := by decide +kernel
theorem d_F_digit_49 : decode b_F_digit 49 = .ok (.getfield 12, 3) := by decide +kernel
theorem d_F_digit_52 : decode b_F_digit 52 = .ok (.getfield 66, 3) := by decide +kernel
theorem d_F_digit_55 : decode b_F_digit 55 = .ok (.iload_n 1, 1) := by decide +kernel
theorem d_F_digit_56 : decode b_F_digit 56 = .ok (.invokevirtual 155, 3) := by decide +kernel
theorem d_F_digit_59 : decode b_F_digit 59 = .ok (.ireturn, 1) := by decide +kernel
def rm_F_digit : Room := { frames := 7, cells := 8, slots := 48, locals := 131 }
def f_F_digit_10 (fu : Nat) (w : List va_E) : Option ((String ⊕ Int32) × List va_E) := (some (Sum.inl "java/lang/IllegalArgumentException", w))
def f_F_digit (fu : Nat) (v0 : Nat) (v1 : Int32) (w : List va_E) : Option ((String ⊕ Int32) × List va_E) := (if v1 < 0 then (f_F_digit_10 fu w) else (if v1 ≤ (60 : Int32) then ((hp_is w v0 6).bind fun _ => (hx_bd (f_F_needTop fu v0 w) fun _ u3 => ((hp_is u3 v0 6).bind fun _ => ((f_F_freshenTruth fu v0 u3).bind fun r4 => ((hp_gr r4 v0 6 3).bind fun q5 => ((hp_gr r4 v0 6 3).bind fun q6 => ((hp_gr r4 v0 6 2).bind fun q7 => ((hp_gr r4 v0 6 0).bind fun q8 => ((hp_is r4 q6 3).bind fun _ => ((f_O_total fu q6 q7 q8 (-1 : Int32) r4).bind fun r9 => ((hp_gr r9.2 v0 6 0).bind fun q10 => ((hp_gi r9.2 q10 1 2).bind fun x11 => ((hp_is r9.2 q5 3).bind fun _ => ((f_O_decimal fu q5 r9.1 x11 v1 r9.2).bind fun r12 => (some (Sum.inr r12.1, r12.2)))))))))))))))) else (f_F_digit_10 fu w)))
section
variable {p : Program} {l : Launch} {e : Env} {s : State} {m : MethodId} {args : Array Value} {below : List Frame} {meth : Method} {c : Code} {D : va_G} {ca : Nat → Nat} {A : Nat → Prop} {ad : Nat → Nat}
set_option maxRecDepth 100000 in
set_option maxHeartbeats 4000000 in
theorem v_F_digit_10 (K : av_K p s m args meth c D cl8 ca A b_F_digit 2 R_F WS) (G : av_G NS tabON A s s.heap) (X : av_X A s s.heap) (hx : ∀ x ∈ c.exceptionTable.toList, False) (hl : l.stackTraces = false) (hr : meth.sig.returnType = some .int) (fu : Nat) {r : (String ⊕ Int32) × List va_E} (w : List va_E) (h : f_F_digit_10 fu w = some r) : av_XVI p l e rm_F_digit s m args below meth c D cl8 A ad ca 2 8 48 r 0 0 10 [none, none] [] w := by
  unfold f_F_digit_10 at h
  obtain rfl := Option.some.inj h
  exact av_throw K X hx hl rfl (by decide) (text := "no such decimal") (by decide) xk_90 xi_90 x1_94 x2_94 x3_94 x4_90 d_F_digit_10 d_F_digit_13 d_F_digit_14 d_F_digit_16 d_F_digit_19 (Nat.le_of_ble_eq_true rfl) (Nat.le_of_ble_eq_true rfl) (Nat.le_of_ble_eq_true rfl) (Nat.le_of_ble_eq_true rfl) (Nat.le_of_ble_eq_true rfl) (Nat.le_of_ble_eq_true rfl) rfl
set_option maxRecDepth 100000 in
set_option maxHeartbeats 4000000 in
theorem v_F_digit (K : av_K p s m args meth c D cl8 ca A b_F_digit 2 R_F WS) (G : av_G NS tabON A s s.heap) (X : av_X A s s.heap) (hx : ∀ x ∈ c.exceptionTable.toList, False) (hl : l.stackTraces = false) (hr : meth.sig.returnType = some .int) (fu : Nat) {r : (String ⊕ Int32) × List va_E} (v0 : Nat) (v1 : Int32) (w : List va_E) (h : f_F_digit fu v0 v1 w = some r) : av_XVI p l e rm_F_digit s m args below meth c D cl8 A ad ca 2 8 48 r 0 0 0 [some (.ref v0), some (.int v1)] [] w := by
  unfold f_F_digit at h
  refine av_iload_n K d_F_digit_0 rfl rfl ?_
  refine av_if_lt (tgt := 10) K d_F_digit_1 rfl (fun hc => ?_) (fun hc => ?_)
  · rw [if_pos hc] at h
    refine av_wd (k := 0) (n := 0) (Nat.le_of_ble_eq_true rfl) (Nat.le_of_ble_eq_true rfl) ?_
    refine hv_fg (L' := [none, none]) [0, 1] rfl ?_
    exact v_F_digit_10 K G X hx hl hr fu _ h
  · rw [if_neg hc] at h
    refine av_iload_n K d_F_digit_4 rfl rfl ?_
    refine av_bipush (v := (60 : Int32)) K d_F_digit_5 (by decide) ?_
    refine av_icmp_le (tgt := 20) K d_F_digit_7 rfl (fun hc => ?_) (fun hc => ?_)
    · rw [if_pos hc] at h
      refine av_aload_n K d_F_digit_20 rfl rfl ?_
      obtain ⟨_, eo21, h⟩ := hp_bd h
      obtain ⟨fs21, ho21⟩ := hp_is_of eo21
      obtain ⟨r1, er1, lr1, h⟩ := hx_of h
      refine av_xVv K G X hx (c_F_needTop hl er1) (cwV 0 K.2.2.2.2.1 (gV ml_F_140 im_F_needTop se_F_needTop in_F co_F_needTop) rfl rfl rfl cd_F_needTop ⟨(Nat.le_of_ble_eq_true rfl), (Nat.le_of_ble_eq_true rfl)⟩) rfl ho21 rfl rfl (Nat.le_of_ble_eq_true rfl) d_F_digit_21 ⟨(Nat.le_of_ble_eq_true rfl), (Nat.le_of_ble_eq_true rfl)⟩ (Nat.le_of_ble_eq_true rfl) (Nat.le_of_ble_eq_true rfl) (fun E9 u9 h9 => (lr1 E9 u9 h9.symm).symm) (fun u3 h9 => ?_)
      have h := h () u3 h9.symm
      refine av_aload_n K d_F_digit_24 rfl rfl ?_
      obtain ⟨_, eo25, h⟩ := hp_bd h
      obtain ⟨r4, er4, h⟩ := hp_bd h
      obtain ⟨fs25, ho25⟩ := hp_is_of eo25
      refine av_cVv K G (c_F_freshenTruth (tab := tabON) er4) (cwV 0 K.2.2.2.2.1 (gV ml_F_143 im_F_freshenTruth se_F_freshenTruth in_F co_F_freshenTruth) rfl rfl rfl cd_F_freshenTruth ⟨Nat.le_of_ble_eq_true rfl, Nat.le_of_ble_eq_true rfl⟩) rfl ho25 rfl rfl (Nat.le_of_ble_eq_true rfl) d_F_digit_25 ⟨Nat.le_of_ble_eq_true rfl, Nat.le_of_ble_eq_true rfl⟩ (fun u9 h9 => ?_)
      subst h9
      refine av_aload_n K d_F_digit_28 rfl rfl ?_
      obtain ⟨q5, eq5, h⟩ := hp_bd h
      refine hv_gr K fl_F_33 d_F_digit_29 eq5 ?_
      refine av_aload_n K d_F_digit_32 rfl rfl ?_
      obtain ⟨q6, eq6, h⟩ := hp_bd h
      refine hv_gr K fl_F_33 d_F_digit_33 eq6 ?_
      refine av_aload_n K d_F_digit_36 rfl rfl ?_
      obtain ⟨q7, eq7, h⟩ := hp_bd h
      refine hv_gr K fl_F_26 d_F_digit_37 eq7 ?_
      refine av_aload_n K d_F_digit_40 rfl rfl ?_
      obtain ⟨q8, eq8, h⟩ := hp_bd h
      refine hv_gr K fl_F_12 d_F_digit_41 eq8 ?_
      refine av_iconst (v := (-1 : Int32)) K d_F_digit_44 (by decide) ?_
      obtain ⟨_, eo45, h⟩ := hp_bd h
      obtain ⟨r9, er9, h⟩ := hp_bd h
      obtain ⟨fs45, ho45⟩ := hp_is_of eo45
      refine av_cVl K G (c_O_total (tab := tabON) er9) (cwV 3 K.2.2.2.2.1 (gV ml_F_149 im_O_total se_O_total in_O co_O_total) rfl rfl rfl cd_O_total ⟨Nat.le_of_ble_eq_true rfl, Nat.le_of_ble_eq_true rfl⟩) rfl ho45 rfl rfl (Nat.le_of_ble_eq_true rfl) d_F_digit_45 ⟨Nat.le_of_ble_eq_true rfl, Nat.le_of_ble_eq_true rfl⟩ (fun a9 u9 h9 => ?_)
      obtain ⟨rfl, rfl⟩ : a9 = r9.1 ∧ u9 = r9.2 := ⟨congrArg Prod.fst h9, congrArg Prod.snd h9⟩
      refine av_aload_n K d_F_digit_48 rfl rfl ?_
      obtain ⟨q10, eq10, h⟩ := hp_bd h
      refine hv_gr K fl_F_12 d_F_digit_49 eq10 ?_
      obtain ⟨x11, ex11, h⟩ := hp_bd h
      refine hv_giN K G fl_F_66 d_F_digit_52 ex11 ?_
      refine av_iload_n K d_F_digit_55 rfl rfl ?_
      obtain ⟨_, eo56, h⟩ := hp_bd h
      obtain ⟨r12, er12, h⟩ := hp_bd h
      obtain ⟨fs56, ho56⟩ := hp_is_of eo56
      refine av_cVi K G (c_O_decimal (tab := tabON) er12) (cwV 3 K.2.2.2.2.1 (gV ml_F_155 im_O_decimal se_O_decimal in_O co_O_decimal) rfl rfl rfl cd_O_decimal ⟨Nat.le_of_ble_eq_true rfl, Nat.le_of_ble_eq_true rfl⟩) rfl ho56 rfl rfl (Nat.le_of_ble_eq_true rfl) d_F_digit_56 ⟨Nat.le_of_ble_eq_true rfl, Nat.le_of_ble_eq_true rfl⟩ (fun a9 u9 h9 => ?_)
      obtain ⟨rfl, rfl⟩ : a9 = r12.1 ∧ u9 = r12.2 := ⟨congrArg Prod.fst h9, congrArg Prod.snd h9⟩
      obtain rfl := Option.some.inj h
      exact av_xret (av_ireturn K hr d_F_digit_59 rfl) (Nat.le_of_ble_eq_true rfl) (Nat.le_of_ble_eq_true rfl)
    · rw [if_neg hc] at h
      refine av_wd (k := 0) (n := 0) (Nat.le_of_ble_eq_true rfl) (Nat.le_of_ble_eq_true rfl) ?_
      refine hv_fg (L' := [none, none]) [0, 1] rfl ?_
      exact v_F_digit_10 K G X hx hl hr fu _ h
end
set_option maxRecDepth 100000 in
theorem c_F_digit {l : Launch} {D : va_G} {ca : Nat → Nat} (hl : l.stackTraces = false) {fu : Nat} {v0 : Nat} {v1 : Int32} {w : List va_E} {r : (String ⊕ Int32) × List va_E} (h : f_F_digit fu v0 v1 w = some r) : av_Xi l D cl8 ca NS tabON y_F_digit w_F_digit rm_F_digit 8 48 [.ref v0, .int v1] w (fun v u => (Sum.inr v, u) = r) (fun E u => (Sum.inl E, u) = r) :=
  av_inXI (cc := b_F_digit) (nL := 2) (by decide +kernel) rfl (Nat.le_of_ble_eq_true rfl) (fun p e s m args below meth c A ad K G X hx hr => v_F_digit K G X hx hl hr fu v0 v1 w h)

-- FaultTreeDesk.weight(I)J
theorem d_F_weight_0 : decode b_F_weight 0 = .ok (.aload_n 0, 1) := by decide +kernel
theorem d_F_weight_1 : decode b_F_weight 1 = .ok (.iload_n 1, 1) := by decide +kernel
theorem d_F_weight_2 : decode b_F_weight 2 = .ok (.invokevirtual 83, 3) := by decide +kernel
theorem d_F_weight_5 : decode b_F_weight 5 = .ok (.aload_n 0, 1) := by decide +kernel
theorem d_F_weight_6 : decode b_F_weight 6 = .ok (.invokevirtual 140, 3) := by decide +kernel
theorem d_F_weight_9 : decode b_F_weight 9 = .ok (.aload_n 0, 1) := by decide +kernel
theorem d_F_weight_10 : decode b_F_weight 10 = .ok (.getfield 12, 3) := by decide +kernel
theorem d_F_weight_13 : decode b_F_weight 13 = .ok (.getfield 95, 3) := by decide +kernel
theorem d_F_weight_16 : decode b_F_weight 16 = .ok (.iload_n 1, 1) := by decide +kernel
theorem d_F_weight_17 : decode b_F_weight 17 = .ok (.iaload, 1) := by decide +kernel
theorem d_F_weight_18 : decode b_F_weight 18 = .ok (.ifCond .ne 10, 3) := by decide +kernel
theorem d_F_weight_21 : decode b_F_weight 21 = .ok (.aload_n 0, 1) := by decide +kernel
theorem d_F_weight_22 : decode b_F_weight 22 = .ok (.invokevirtual 143, 3) := by decide +kernel
theorem d_F_weight_25 : decode b_F_weight 25 = .ok (.goto 28, 3) := by decide +kernel
theorem d_F_weight_28 : decode b_F_weight 28 = .ok (.aload_n 0, 1) := by decide +kernel
theorem d_F_weight_29 : decode b_F_weight 29 = .ok (.getfield 26, 3) := by decide +kernel
theorem d_F_weight_32 : decode b_F_weight 32 = .ok (.aload_n 0, 1) := by decide +kernel
theorem d_F_weight_33 : decode b_F_weight 33 = .ok (.getfield 12, 3) := by decide +kernel
theorem d_F_weight_36 : decode b_F_weight 36 = .ok (.aload_n 0, 1) := by decide +kernel
theorem d_F_weight_37 : decode b_F_weight 37 = .ok (.getfield 19, 3) := by decide +kernel
theorem d_F_weight_40 : decode b_F_weight 40 = .ok (.aload_n 0, 1) := by decide +kernel
theorem d_F_weight_41 : decode b_F_weight 41 = .ok (.getfield 51, 3) := by decide +kernel
theorem d_F_weight_44 : decode b_F_weight 44 = .ok (.iload_n 1, 1) := by decide +kernel
theorem d_F_weight_45 : decode b_F_weight 45 = .ok (.invokevirtual 159, 3) := by decide +kernel
theorem d_F_weight_48 : decode b_F_weight 48 = .ok (.aload_n 0, 1) := by decide +kernel
theorem d_F_weight_49 : decode b_F_weight 49 = .ok (.iconst 0, 1) := by decide +kernel
theorem d_F_weight_50 : decode b_F_weight 50 = .ok (.putfield 55, 3) := by decide +kernel
theorem d_F_weight_53 : decode b_F_weight 53 = .ok (.aload_n 0, 1) := by decide +kernel
theorem d_F_weight_54 : decode b_F_weight 54 = .ok (.getfield 33, 3) := by decide +kernel
theorem d_F_weight_57 : decode b_F_weight 57 = .ok (.aload_n 0, 1) := by decide +kernel
theorem d_F_weight_58 : decode b_F_weight 58 = .ok (.getfield 26, 3) := by decide +kernel
theorem d_F_weight_61 : decode b_F_weight 61 = .ok (.aload_n 0, 1) := by decide +kernel
theorem d_F_weight_62 : decode b_F_weight 62 = .ok (.getfield 12, 3) := by decide +kernel
theorem d_F_weight_65 : decode b_F_weight 65 = .ok (.iload_n 1, 1) := by decide +kernel
theorem d_F_weight_66 : decode b_F_weight 66 = .ok (.invokevirtual 149, 3) := by decide +kernel
theorem d_F_weight_69 : decode b_F_weight 69 = .ok (.lreturn, 1) := by decide +kernel
def rm_F_weight : Room := { frames := 7, cells := 8, slots := 48, locals := 131 }
def f_F_weight_53 (fu : Nat) (v0 : Nat) (v1 : Int32) (w : List va_E) : Option ((String ⊕ Int64) × List va_E) := ((hp_gr w v0 6 3).bind fun q1 => ((hp_gr w v0 6 2).bind fun q2 => ((hp_gr w v0 6 0).bind fun q3 => ((hp_is w q1 3).bind fun _ => ((f_O_total fu q1 q2 q3 v1 w).bind fun r4 => (some (Sum.inr r4.1, r4.2)))))))
def f_F_weight (fu : Nat) (v0 : Nat) (v1 : Int32) (w : List va_E) : Option ((String ⊕ Int64) × List va_E) := ((hp_is w v0 6).bind fun _ => (hx_bd (f_F_needEvent fu v0 v1 w) fun _ u3 => ((hp_is u3 v0 6).bind fun _ => (hx_bd (f_F_needTop fu v0 u3) fun _ u6 => ((hp_gr u6 v0 6 0).bind fun q7 => ((hp_gr u6 q7 1 1).bind fun q8 => ((hp_ri u6 q8 v1).bind fun x9 => (if x9 = 0 then ((hp_is u6 v0 6).bind fun _ => ((f_F_freshenTruth fu v0 u6).bind fun r16 => (f_F_weight_53 fu (v0) (v1) r16))) else ((hp_gr u6 v0 6 2).bind fun q10 => ((hp_gr u6 v0 6 0).bind fun q11 => ((hp_gr u6 v0 6 1).bind fun q12 => ((hp_gi u6 v0 6 6).bind fun x13 => ((hp_is u6 q10 5).bind fun _ => ((f_T_fill fu q10 q11 q12 x13 v1 u6).bind fun r14 => ((hp_pz r14 v0 6 7 (0 : Int32)).bind fun w15 => (f_F_weight_53 fu (v0) (v1) w15))))))))))))))))
section
variable {p : Program} {l : Launch} {e : Env} {s : State} {m : MethodId} {args : Array Value} {below : List Frame} {meth : Method} {c : Code} {D : va_G} {ca : Nat → Nat} {A : Nat → Prop} {ad : Nat → Nat}
set_option maxRecDepth 100000 in
set_option maxHeartbeats 4000000 in
theorem v_F_weight_53 (K : av_K p s m args meth c D cl8 ca A b_F_weight 2 R_F WS) (G : av_G NS tabON A s s.heap) (X : av_X A s s.heap) (hx : ∀ x ∈ c.exceptionTable.toList, False) (hl : l.stackTraces = false) (hr : meth.sig.returnType = some .long) (fu : Nat) {r : (String ⊕ Int64) × List va_E} (v0 : Nat) (v1 : Int32) (w : List va_E) (h : f_F_weight_53 fu v0 v1 w = some r) : av_XVL p l e rm_F_weight s m args below meth c D cl8 A ad ca 2 8 48 r 2 12 53 [some (.ref v0), some (.int v1)] [] w := by
  unfold f_F_weight_53 at h
  refine av_aload_n K d_F_weight_53 rfl rfl ?_
  obtain ⟨q1, eq1, h⟩ := hp_bd h
  refine hv_gr K fl_F_33 d_F_weight_54 eq1 ?_
  refine av_aload_n K d_F_weight_57 rfl rfl ?_
  obtain ⟨q2, eq2, h⟩ := hp_bd h
  refine hv_gr K fl_F_26 d_F_weight_58 eq2 ?_
  refine av_aload_n K d_F_weight_61 rfl rfl ?_
  obtain ⟨q3, eq3, h⟩ := hp_bd h
  refine hv_gr K fl_F_12 d_F_weight_62 eq3 ?_
  refine av_iload_n K d_F_weight_65 rfl rfl ?_
  obtain ⟨_, eo66, h⟩ := hp_bd h
  obtain ⟨r4, er4, h⟩ := hp_bd h
  obtain ⟨fs66, ho66⟩ := hp_is_of eo66
  refine av_cVl K G (c_O_total (tab := tabON) er4) (cwV 3 K.2.2.2.2.1 (gV ml_F_149 im_O_total se_O_total in_O co_O_total) rfl rfl rfl cd_O_total ⟨Nat.le_of_ble_eq_true rfl, Nat.le_of_ble_eq_true rfl⟩) rfl ho66 rfl rfl (Nat.le_of_ble_eq_true rfl) d_F_weight_66 ⟨Nat.le_of_ble_eq_true rfl, Nat.le_of_ble_eq_true rfl⟩ (fun a9 u9 h9 => ?_)
  obtain ⟨rfl, rfl⟩ : a9 = r4.1 ∧ u9 = r4.2 := ⟨congrArg Prod.fst h9, congrArg Prod.snd h9⟩
  obtain rfl := Option.some.inj h
  exact av_xret (av_lreturn K hr d_F_weight_69 rfl) (Nat.le_of_ble_eq_true rfl) (Nat.le_of_ble_eq_true rfl)
set_option maxRecDepth 100000 in
set_option maxHeartbeats 4000000 in
theorem v_F_weight (K : av_K p s m args meth c D cl8 ca A b_F_weight 2 R_F WS) (G : av_G NS tabON A s s.heap) (X : av_X A s s.heap) (hx : ∀ x ∈ c.exceptionTable.toList, False) (hl : l.stackTraces = false) (hr : meth.sig.returnType = some .long) (fu : Nat) {r : (String ⊕ Int64) × List va_E} (v0 : Nat) (v1 : Int32) (w : List va_E) (h : f_F_weight fu v0 v1 w = some r) : av_XVL p l e rm_F_weight s m args below meth c D cl8 A ad ca 2 8 48 r 0 0 0 [some (.ref v0), some (.int v1)] [] w := by
  unfold f_F_weight at h
  refine av_aload_n K d_F_weight_0 rfl rfl ?_
  refine av_iload_n K d_F_weight_1 rfl rfl ?_
  obtain ⟨_, eo2, h⟩ := hp_bd h
  obtain ⟨fs2, ho2⟩ := hp_is_of eo2
  obtain ⟨r1, er1, lr1, h⟩ := hx_of h
  refine av_xVv K G X hx (c_F_needEvent hl er1) (cwV 1 K.2.2.2.2.1 (gV ml_F_83 im_F_needEvent se_F_needEvent in_F co_F_needEvent) rfl rfl rfl cd_F_needEvent ⟨(Nat.le_of_ble_eq_true rfl), (Nat.le_of_ble_eq_true rfl)⟩) rfl ho2 rfl rfl (Nat.le_of_ble_eq_true rfl) d_F_weight_2 ⟨(Nat.le_of_ble_eq_true rfl), (Nat.le_of_ble_eq_true rfl)⟩ (Nat.le_of_ble_eq_true rfl) (Nat.le_of_ble_eq_true rfl) (fun E9 u9 h9 => (lr1 E9 u9 h9.symm).symm) (fun u3 h9 => ?_)
  have h := h () u3 h9.symm
  refine av_aload_n K d_F_weight_5 rfl rfl ?_
  obtain ⟨_, eo6, h⟩ := hp_bd h
  obtain ⟨fs6, ho6⟩ := hp_is_of eo6
  obtain ⟨r4, er4, lr4, h⟩ := hx_of h
  refine av_xVv K G X hx (c_F_needTop hl er4) (cwV 0 K.2.2.2.2.1 (gV ml_F_140 im_F_needTop se_F_needTop in_F co_F_needTop) rfl rfl rfl cd_F_needTop ⟨(Nat.le_of_ble_eq_true rfl), (Nat.le_of_ble_eq_true rfl)⟩) rfl ho6 rfl rfl (Nat.le_of_ble_eq_true rfl) d_F_weight_6 ⟨(Nat.le_of_ble_eq_true rfl), (Nat.le_of_ble_eq_true rfl)⟩ (Nat.le_of_ble_eq_true rfl) (Nat.le_of_ble_eq_true rfl) (fun E9 u9 h9 => (lr4 E9 u9 h9.symm).symm) (fun u6 h9 => ?_)
  have h := h () u6 h9.symm
  refine av_aload_n K d_F_weight_9 rfl rfl ?_
  obtain ⟨q7, eq7, h⟩ := hp_bd h
  refine hv_gr K fl_F_12 d_F_weight_10 eq7 ?_
  obtain ⟨q8, eq8, h⟩ := hp_bd h
  refine hv_grN K G fl_F_95 d_F_weight_13 eq8 ?_
  refine av_iload_n K d_F_weight_16 rfl rfl ?_
  obtain ⟨x9, ex9, h⟩ := hp_bd h
  refine hv_ri K d_F_weight_17 ex9 ?_
  refine av_if_ne (tgt := 28) K d_F_weight_18 rfl (fun hc => ?_) (fun hc => ?_)
  · rw [if_neg hc] at h
    refine av_aload_n K d_F_weight_28 rfl rfl ?_
    obtain ⟨q10, eq10, h⟩ := hp_bd h
    refine hv_gr K fl_F_26 d_F_weight_29 eq10 ?_
    refine av_aload_n K d_F_weight_32 rfl rfl ?_
    obtain ⟨q11, eq11, h⟩ := hp_bd h
    refine hv_gr K fl_F_12 d_F_weight_33 eq11 ?_
    refine av_aload_n K d_F_weight_36 rfl rfl ?_
    obtain ⟨q12, eq12, h⟩ := hp_bd h
    refine hv_gr K fl_F_19 d_F_weight_37 eq12 ?_
    refine av_aload_n K d_F_weight_40 rfl rfl ?_
    obtain ⟨x13, ex13, h⟩ := hp_bd h
    refine hv_gi K fl_F_51 d_F_weight_41 ex13 ?_
    refine av_iload_n K d_F_weight_44 rfl rfl ?_
    obtain ⟨_, eo45, h⟩ := hp_bd h
    obtain ⟨r14, er14, h⟩ := hp_bd h
    obtain ⟨fs45, ho45⟩ := hp_is_of eo45
    refine av_cVv K G (c_T_fill (tab := tabON) er14) (cwV 4 K.2.2.2.2.1 (gV ml_F_159 im_T_fill se_T_fill in_T co_T_fill) rfl rfl rfl cd_T_fill ⟨Nat.le_of_ble_eq_true rfl, Nat.le_of_ble_eq_true rfl⟩) rfl ho45 rfl rfl (Nat.le_of_ble_eq_true rfl) d_F_weight_45 ⟨Nat.le_of_ble_eq_true rfl, Nat.le_of_ble_eq_true rfl⟩ (fun u9 h9 => ?_)
    subst h9
    refine av_aload_n K d_F_weight_48 rfl rfl ?_
    refine av_iconst (v := (0 : Int32)) K d_F_weight_49 (by decide) ?_
    obtain ⟨w15, ew15, h⟩ := hp_bd h
    refine hv_pz K fp_F_55 d_F_weight_50 ew15 ?_
    refine av_wd (k := 2) (n := 12) (Nat.le_of_ble_eq_true rfl) (Nat.le_of_ble_eq_true rfl) ?_
    exact v_F_weight_53 K G X hx hl hr fu (v0) (v1) _ h
  · rw [if_pos hc] at h
    refine av_aload_n K d_F_weight_21 rfl rfl ?_
    obtain ⟨_, eo22, h⟩ := hp_bd h
    obtain ⟨r16, er16, h⟩ := hp_bd h
    obtain ⟨fs22, ho22⟩ := hp_is_of eo22
    refine av_cVv K G (c_F_freshenTruth (tab := tabON) er16) (cwV 0 K.2.2.2.2.1 (gV ml_F_143 im_F_freshenTruth se_F_freshenTruth in_F co_F_freshenTruth) rfl rfl rfl cd_F_freshenTruth ⟨Nat.le_of_ble_eq_true rfl, Nat.le_of_ble_eq_true rfl⟩) rfl ho22 rfl rfl (Nat.le_of_ble_eq_true rfl) d_F_weight_22 ⟨Nat.le_of_ble_eq_true rfl, Nat.le_of_ble_eq_true rfl⟩ (fun u9 h9 => ?_)
    subst h9
    refine av_goto (tgt := 53) K d_F_weight_25 rfl ?_
    refine av_wd (k := 2) (n := 12) (Nat.le_of_ble_eq_true rfl) (Nat.le_of_ble_eq_true rfl) ?_
    exact v_F_weight_53 K G X hx hl hr fu (v0) (v1) _ h
end
set_option maxRecDepth 100000 in
theorem c_F_weight {l : Launch} {D : va_G} {ca : Nat → Nat} (hl : l.stackTraces = false) {fu : Nat} {v0 : Nat} {v1 : Int32} {w : List va_E} {r : (String ⊕ Int64) × List va_E} (h : f_F_weight fu v0 v1 w = some r) : av_Xl l D cl8 ca NS tabON y_F_weight w_F_weight rm_F_weight 8 48 [.ref v0, .int v1] w (fun v u => (Sum.inr v, u) = r) (fun E u => (Sum.inl E, u) = r) :=
  av_inXL (cc := b_F_weight) (nL := 2) (by decide +kernel) rfl (Nat.le_of_ble_eq_true rfl) (fun p e s m args below meth c A ad K G X hx hr => v_F_weight K G X hx hl hr fu v0 v1 w h)

-- FaultTreeDesk.nodes()I
theorem d_F_nodes_0 : decode b_F_nodes 0 = .ok (.aload_n 0, 1) := by decide +kernel
theorem d_F_nodes_1 : decode b_F_nodes 1 = .ok (.invokevirtual 140, 3) := by decide +kernel
theorem d_F_nodes_4 : decode b_F_nodes 4 = .ok (.aload_n 0, 1) := by decide +kernel
theorem d_F_nodes_5 : decode b_F_nodes 5 = .ok (.invokevirtual 143, 3) := by decide +kernel
theorem d_F_nodes_8 : decode b_F_nodes 8 = .ok (.aload_n 0, 1) := by decide +kernel
theorem d_F_nodes_9 : decode b_F_nodes 9 = .ok (.getfield 40, 3) := by decide +kernel
theorem d_F_nodes_12 : decode b_F_nodes 12 = .ok (.aload_n 0, 1) := by decide +kernel
theorem d_F_nodes_13 : decode b_F_nodes 13 = .ok (.getfield 26, 3) := by decide +kernel
theorem d_F_nodes_16 : decode b_F_nodes 16 = .ok (.aload_n 0, 1) := by decide +kernel
theorem d_F_nodes_17 : decode b_F_nodes 17 = .ok (.getfield 12, 3) := by decide +kernel
theorem d_F_nodes_20 : decode b_F_nodes 20 = .ok (.getfield 66, 3) := by decide +kernel
theorem d_F_nodes_23 : decode b_F_nodes 23 = .ok (.invokevirtual 163, 3) := by decide +kernel
theorem d_F_nodes_26 : decode b_F_nodes 26 = .ok (.ireturn, 1) := by decide +kernel
def rm_F_nodes : Room := { frames := 7, cells := 8, slots := 48, locals := 131 }
def f_F_nodes (fu : Nat) (v0 : Nat) (w : List va_E) : Option ((String ⊕ Int32) × List va_E) := ((hp_is w v0 6).bind fun _ => (hx_bd (f_F_needTop fu v0 w) fun _ u3 => ((hp_is u3 v0 6).bind fun _ => ((f_F_freshenTruth fu v0 u3).bind fun r4 => ((hp_gr r4 v0 6 4).bind fun q5 => ((hp_gr r4 v0 6 2).bind fun q6 => ((hp_gr r4 v0 6 0).bind fun q7 => ((hp_gi r4 q7 1 2).bind fun x8 => ((hp_is r4 q5 0).bind fun _ => ((f_D_countNodes fu q5 q6 x8 r4).bind fun r9 => (some (Sum.inr r9.1, r9.2))))))))))))
section
variable {p : Program} {l : Launch} {e : Env} {s : State} {m : MethodId} {args : Array Value} {below : List Frame} {meth : Method} {c : Code} {D : va_G} {ca : Nat → Nat} {A : Nat → Prop} {ad : Nat → Nat}
set_option maxRecDepth 100000 in
set_option maxHeartbeats 4000000 in
theorem v_F_nodes (K : av_K p s m args meth c D cl8 ca A b_F_nodes 1 R_F WS) (G : av_G NS tabON A s s.heap) (X : av_X A s s.heap) (hx : ∀ x ∈ c.exceptionTable.toList, False) (hl : l.stackTraces = false) (hr : meth.sig.returnType = some .int) (fu : Nat) {r : (String ⊕ Int32) × List va_E} (v0 : Nat) (w : List va_E) (h : f_F_nodes fu v0 w = some r) : av_XVI p l e rm_F_nodes s m args below meth c D cl8 A ad ca 1 8 48 r 0 0 0 [some (.ref v0)] [] w := by
  unfold f_F_nodes at h
  refine av_aload_n K d_F_nodes_0 rfl rfl ?_
  obtain ⟨_, eo1, h⟩ := hp_bd h
  obtain ⟨fs1, ho1⟩ := hp_is_of eo1
  obtain ⟨r1, er1, lr1, h⟩ := hx_of h
  refine av_xVv K G X hx (c_F_needTop hl er1) (cwV 0 K.2.2.2.2.1 (gV ml_F_140 im_F_needTop se_F_needTop in_F co_F_needTop) rfl rfl rfl cd_F_needTop ⟨(Nat.le_of_ble_eq_true rfl), (Nat.le_of_ble_eq_true rfl)⟩) rfl ho1 rfl rfl (Nat.le_of_ble_eq_true rfl) d_F_nodes_1 ⟨(Nat.le_of_ble_eq_true rfl), (Nat.le_of_ble_eq_true rfl)⟩ (Nat.le_of_ble_eq_true rfl) (Nat.le_of_ble_eq_true rfl) (fun E9 u9 h9 => (lr1 E9 u9 h9.symm).symm) (fun u3 h9 => ?_)
  have h := h () u3 h9.symm
  refine av_aload_n K d_F_nodes_4 rfl rfl ?_
  obtain ⟨_, eo5, h⟩ := hp_bd h
  obtain ⟨r4, er4, h⟩ := hp_bd h
  obtain ⟨fs5, ho5⟩ := hp_is_of eo5
  refine av_cVv K G (c_F_freshenTruth (tab := tabON) er4) (cwV 0 K.2.2.2.2.1 (gV ml_F_143 im_F_freshenTruth se_F_freshenTruth in_F co_F_freshenTruth) rfl rfl rfl cd_F_freshenTruth ⟨Nat.le_of_ble_eq_true rfl, Nat.le_of_ble_eq_true rfl⟩) rfl ho5 rfl rfl (Nat.le_of_ble_eq_true rfl) d_F_nodes_5 ⟨Nat.le_of_ble_eq_true rfl, Nat.le_of_ble_eq_true rfl⟩ (fun u9 h9 => ?_)
  subst h9
  refine av_aload_n K d_F_nodes_8 rfl rfl ?_
  obtain ⟨q5, eq5, h⟩ := hp_bd h
  refine hv_gr K fl_F_40 d_F_nodes_9 eq5 ?_
  refine av_aload_n K d_F_nodes_12 rfl rfl ?_
  obtain ⟨q6, eq6, h⟩ := hp_bd h
  refine hv_gr K fl_F_26 d_F_nodes_13 eq6 ?_
  refine av_aload_n K d_F_nodes_16 rfl rfl ?_
  obtain ⟨q7, eq7, h⟩ := hp_bd h
  refine hv_gr K fl_F_12 d_F_nodes_17 eq7 ?_
  obtain ⟨x8, ex8, h⟩ := hp_bd h
  refine hv_giN K G fl_F_66 d_F_nodes_20 ex8 ?_
  obtain ⟨_, eo23, h⟩ := hp_bd h
  obtain ⟨r9, er9, h⟩ := hp_bd h
  obtain ⟨fs23, ho23⟩ := hp_is_of eo23
  refine av_cVi K G (c_D_countNodes (tab := tabON) er9) (cwV 2 K.2.2.2.2.1 (gV ml_F_163 im_D_countNodes se_D_countNodes in_D co_D_countNodes) rfl rfl rfl cd_D_countNodes ⟨Nat.le_of_ble_eq_true rfl, Nat.le_of_ble_eq_true rfl⟩) rfl ho23 rfl rfl (Nat.le_of_ble_eq_true rfl) d_F_nodes_23 ⟨Nat.le_of_ble_eq_true rfl, Nat.le_of_ble_eq_true rfl⟩ (fun a9 u9 h9 => ?_)
  obtain ⟨rfl, rfl⟩ : a9 = r9.1 ∧ u9 = r9.2 := ⟨congrArg Prod.fst h9, congrArg Prod.snd h9⟩
  obtain rfl := Option.some.inj h
  exact av_xret (av_ireturn K hr d_F_nodes_26 rfl) (Nat.le_of_ble_eq_true rfl) (Nat.le_of_ble_eq_true rfl)
end
set_option maxRecDepth 100000 in
theorem c_F_nodes {l : Launch} {D : va_G} {ca : Nat → Nat} (hl : l.stackTraces = false) {fu : Nat} {v0 : Nat} {w : List va_E} {r : (String ⊕ Int32) × List va_E} (h : f_F_nodes fu v0 w = some r) : av_Xi l D cl8 ca NS tabON y_F_nodes w_F_nodes rm_F_nodes 8 48 [.ref v0] w (fun v u => (Sum.inr v, u) = r) (fun E u => (Sum.inl E, u) = r) :=
  av_inXI (cc := b_F_nodes) (nL := 1) (by decide +kernel) rfl (Nat.le_of_ble_eq_true rfl) (fun p e s m args below meth c A ad K G X hx hr => v_F_nodes K G X hx hl hr fu v0 w h)

-- FaultTreeDesk.primes(I)I
theorem d_F_primes_0 : decode b_F_primes 0 = .ok (.iload_n 1, 1) := by decide +kernel
theorem d_F_primes_1 : decode b_F_primes 1 = .ok (.ifCond .lt 9, 3) := by decide +kernel
theorem d_F_primes_4 : decode b_F_primes 4 = .ok (.iload_n 1, 1) := by decide +kernel
theorem d_F_primes_5 : decode b_F_primes 5 = .ok (.bipush 10, 2) := by decide +kernel
theorem d_F_primes_7 : decode b_F_primes 7 = .ok (.if_icmp .le 13, 3) := by decide +kernel
theorem d_F_primes_10 : decode b_F_primes 10 = .ok (.new 90, 3) := by decide +kernel
theorem d_F_primes_13 : decode b_F_primes 13 = .ok (.dup, 1) := by decide +kernel
theorem d_F_primes_14 : decode b_F_primes 14 = .ok (.ldc 167, 2) := by decide +kernel
theorem d_F_primes_16 : decode b_F_primes 16 = .ok (.invokespecial 94, 3) := by decide +kernel
theorem d_F_primes_19 : decode b_F_primes 19 = .ok (.athrow, 1) := by decide +kernel
theorem d_F_primes_20 : decode b_F_primes 20 = .ok (.aload_n 0, 1) := by decide +kernel
theorem d_F_primes_21 : decode b_F_primes 21 = .ok (.invokevirtual 140, 3) := by decide +kernel
theorem d_F_primes_24 : decode b_F_primes 24 = .ok (.aload_n 0, 1) := by decide +kernel
theorem d_F_primes_25 : decode b_F_primes 25 = .ok (.invokevirtual 169, 3) := by decide +kernel
theorem d_F_primes_28 : decode b_F_primes 28 = .ok (.aload_n 0, 1) := by decide +kernel
theorem d_F_primes_29 : decode b_F_primes 29 = .ok (.getfield 47, 3) := by decide +kernel
theorem d_F_primes_32 : decode b_F_primes 32 = .ok (.iload_n 1, 1) := by decide +kernel
theorem d_F_primes_33 : decode b_F_primes 33 = .ok (.invokevirtual 172, 3) := by decide +kernel
theorem d_F_primes_36 : decode b_F_primes 36 = .ok (.ireturn, 1) := by decide +kernel
def rm_F_primes : Room := { frames := 20, cells := 8, slots := 48, locals := 855 }
def f_F_primes_10 (fu : Nat) (w : List va_E) : Option ((String ⊕ Int32) × List va_E) := (some (Sum.inl "java/lang/IllegalArgumentException", w))
def f_F_primes (fu : Nat) (v0 : Nat) (v1 : Int32) (w : List va_E) : Option ((String ⊕ Int32) × List va_E) := (if v1 < 0 then (f_F_primes_10 fu w) else (if v1 ≤ (10 : Int32) then ((hp_is w v0 6).bind fun _ => (hx_bd (f_F_needTop fu v0 w) fun _ u3 => ((hp_is u3 v0 6).bind fun _ => (hx_bd (f_F_needTerms fu v0 u3) fun _ u6 => ((hp_gr u6 v0 6 5).bind fun q7 => ((hp_is u6 q7 4).bind fun _ => ((f_X_countUpTo fu q7 v1 u6).bind fun r8 => (some (Sum.inr r8.1, r8.2))))))))) else (f_F_primes_10 fu w)))
section
variable {p : Program} {l : Launch} {e : Env} {s : State} {m : MethodId} {args : Array Value} {below : List Frame} {meth : Method} {c : Code} {D : va_G} {ca : Nat → Nat} {A : Nat → Prop} {ad : Nat → Nat}
set_option maxRecDepth 100000 in
set_option maxHeartbeats 4000000 in
theorem v_F_primes_10 (K : av_K p s m args meth c D cl8 ca A b_F_primes 2 R_F WS) (G : av_G NS tabON A s s.heap) (X : av_X A s s.heap) (hx : ∀ x ∈ c.exceptionTable.toList, False) (hl : l.stackTraces = false) (hr : meth.sig.returnType = some .int) (fu : Nat) {r : (String ⊕ Int32) × List va_E} (w : List va_E) (h : f_F_primes_10 fu w = some r) : av_XVI p l e rm_F_primes s m args below meth c D cl8 A ad ca 2 8 48 r 0 0 10 [none, none] [] w := by
  unfold f_F_primes_10 at h
  obtain rfl := Option.some.inj h
  exact av_throw K X hx hl rfl (by decide) (text := "no such number of events") (by decide) xk_90 xi_90 x1_94 x2_94 x3_94 x4_90 d_F_primes_10 d_F_primes_13 d_F_primes_14 d_F_primes_16 d_F_primes_19 (Nat.le_of_ble_eq_true rfl) (Nat.le_of_ble_eq_true rfl) (Nat.le_of_ble_eq_true rfl) (Nat.le_of_ble_eq_true rfl) (Nat.le_of_ble_eq_true rfl) (Nat.le_of_ble_eq_true rfl) rfl
set_option maxRecDepth 100000 in
set_option maxHeartbeats 4000000 in
theorem v_F_primes (K : av_K p s m args meth c D cl8 ca A b_F_primes 2 R_F WS) (G : av_G NS tabON A s s.heap) (X : av_X A s s.heap) (hx : ∀ x ∈ c.exceptionTable.toList, False) (hl : l.stackTraces = false) (hr : meth.sig.returnType = some .int) (fu : Nat) {r : (String ⊕ Int32) × List va_E} (v0 : Nat) (v1 : Int32) (w : List va_E) (h : f_F_primes fu v0 v1 w = some r) : av_XVI p l e rm_F_primes s m args below meth c D cl8 A ad ca 2 8 48 r 0 0 0 [some (.ref v0), some (.int v1)] [] w := by
  unfold f_F_primes at h
  refine av_iload_n K d_F_primes_0 rfl rfl ?_
  refine av_if_lt (tgt := 10) K d_F_primes_1 rfl (fun hc => ?_) (fun hc => ?_)
  · rw [if_pos hc] at h
    refine av_wd (k := 0) (n := 0) (Nat.le_of_ble_eq_true rfl) (Nat.le_of_ble_eq_true rfl) ?_
    refine hv_fg (L' := [none, none]) [0, 1] rfl ?_
    exact v_F_primes_10 K G X hx hl hr fu _ h
  · rw [if_neg hc] at h
    refine av_iload_n K d_F_primes_4 rfl rfl ?_
    refine av_bipush (v := (10 : Int32)) K d_F_primes_5 (by decide) ?_
    refine av_icmp_le (tgt := 20) K d_F_primes_7 rfl (fun hc => ?_) (fun hc => ?_)
    · rw [if_pos hc] at h
      refine av_aload_n K d_F_primes_20 rfl rfl ?_
      obtain ⟨_, eo21, h⟩ := hp_bd h
      obtain ⟨fs21, ho21⟩ := hp_is_of eo21
      obtain ⟨r1, er1, lr1, h⟩ := hx_of h
      refine av_xVv K G X hx (c_F_needTop hl er1) (cwV 0 K.2.2.2.2.1 (gV ml_F_140 im_F_needTop se_F_needTop in_F co_F_needTop) rfl rfl rfl cd_F_needTop ⟨(Nat.le_of_ble_eq_true rfl), (Nat.le_of_ble_eq_true rfl)⟩) rfl ho21 rfl rfl (Nat.le_of_ble_eq_true rfl) d_F_primes_21 ⟨(Nat.le_of_ble_eq_true rfl), (Nat.le_of_ble_eq_true rfl)⟩ (Nat.le_of_ble_eq_true rfl) (Nat.le_of_ble_eq_true rfl) (fun E9 u9 h9 => (lr1 E9 u9 h9.symm).symm) (fun u3 h9 => ?_)
      have h := h () u3 h9.symm
      refine av_aload_n K d_F_primes_24 rfl rfl ?_
      obtain ⟨_, eo25, h⟩ := hp_bd h
      obtain ⟨fs25, ho25⟩ := hp_is_of eo25
      obtain ⟨r4, er4, lr4, h⟩ := hx_of h
      refine av_xVv K G X hx (c_F_needTerms hl er4) (cwV 0 K.2.2.2.2.1 (gV ml_F_169 im_F_needTerms se_F_needTerms in_F co_F_needTerms) rfl rfl rfl cd_F_needTerms ⟨(Nat.le_of_ble_eq_true rfl), (Nat.le_of_ble_eq_true rfl)⟩) rfl ho25 rfl rfl (Nat.le_of_ble_eq_true rfl) d_F_primes_25 ⟨(Nat.le_of_ble_eq_true rfl), (Nat.le_of_ble_eq_true rfl)⟩ (Nat.le_of_ble_eq_true rfl) (Nat.le_of_ble_eq_true rfl) (fun E9 u9 h9 => (lr4 E9 u9 h9.symm).symm) (fun u6 h9 => ?_)
      have h := h () u6 h9.symm
      refine av_aload_n K d_F_primes_28 rfl rfl ?_
      obtain ⟨q7, eq7, h⟩ := hp_bd h
      refine hv_gr K fl_F_47 d_F_primes_29 eq7 ?_
      refine av_iload_n K d_F_primes_32 rfl rfl ?_
      obtain ⟨_, eo33, h⟩ := hp_bd h
      obtain ⟨r8, er8, h⟩ := hp_bd h
      obtain ⟨fs33, ho33⟩ := hp_is_of eo33
      refine av_cVi K G (c_X_countUpTo (tab := tabON) er8) (cwV 1 K.2.2.2.2.1 (gV ml_F_172 im_X_countUpTo se_X_countUpTo in_X co_X_countUpTo) rfl rfl rfl cd_X_countUpTo ⟨Nat.le_of_ble_eq_true rfl, Nat.le_of_ble_eq_true rfl⟩) rfl ho33 rfl rfl (Nat.le_of_ble_eq_true rfl) d_F_primes_33 ⟨Nat.le_of_ble_eq_true rfl, Nat.le_of_ble_eq_true rfl⟩ (fun a9 u9 h9 => ?_)
      obtain ⟨rfl, rfl⟩ : a9 = r8.1 ∧ u9 = r8.2 := ⟨congrArg Prod.fst h9, congrArg Prod.snd h9⟩
      obtain rfl := Option.some.inj h
      exact av_xret (av_ireturn K hr d_F_primes_36 rfl) (Nat.le_of_ble_eq_true rfl) (Nat.le_of_ble_eq_true rfl)
    · rw [if_neg hc] at h
      refine av_wd (k := 0) (n := 0) (Nat.le_of_ble_eq_true rfl) (Nat.le_of_ble_eq_true rfl) ?_
      refine hv_fg (L' := [none, none]) [0, 1] rfl ?_
      exact v_F_primes_10 K G X hx hl hr fu _ h
end
set_option maxRecDepth 100000 in
theorem c_F_primes {l : Launch} {D : va_G} {ca : Nat → Nat} (hl : l.stackTraces = false) {fu : Nat} {v0 : Nat} {v1 : Int32} {w : List va_E} {r : (String ⊕ Int32) × List va_E} (h : f_F_primes fu v0 v1 w = some r) : av_Xi l D cl8 ca NS tabON y_F_primes w_F_primes rm_F_primes 8 48 [.ref v0, .int v1] w (fun v u => (Sum.inr v, u) = r) (fun E u => (Sum.inl E, u) = r) :=
  av_inXI (cc := b_F_primes) (nL := 2) (by decide +kernel) rfl (Nat.le_of_ble_eq_true rfl) (fun p e s m args below meth c A ad K G X hx hr => v_F_primes K G X hx hl hr fu v0 v1 w h)

-- FaultTreeDesk.prime(II)I
theorem d_F_prime_0 : decode b_F_prime 0 = .ok (.iload_n 2, 1) := by decide +kernel
theorem d_F_prime_1 : decode b_F_prime 1 = .ok (.ifCond .eq 18, 3) := by decide +kernel
theorem d_F_prime_4 : decode b_F_prime 4 = .ok (.iload_n 2, 1) := by decide +kernel
theorem d_F_prime_5 : decode b_F_prime 5 = .ok (.iconst 1, 1) := by decide +kernel
theorem d_F_prime_6 : decode b_F_prime 6 = .ok (.if_icmp .eq 13, 3) := by decide +kernel
theorem d_F_prime_9 : decode b_F_prime 9 = .ok (.new 90, 3) := by decide +kernel
theorem d_F_prime_12 : decode b_F_prime 12 = .ok (.dup, 1) := by decide +kernel
theorem d_F_prime_13 : decode b_F_prime 13 = .ok (.ldc 175, 2) := by decide +kernel
theorem d_F_prime_15 : decode b_F_prime 15 = .ok (.invokespecial 94, 3) := by decide +kernel
theorem d_F_prime_18 : decode b_F_prime 18 = .ok (.athrow, 1) := by decide +kernel
theorem d_F_prime_19 : decode b_F_prime 19 = .ok (.aload_n 0, 1) := by decide +kernel
theorem d_F_prime_20 : decode b_F_prime 20 = .ok (.invokevirtual 140, 3) := by decide +kernel
theorem d_F_prime_23 : decode b_F_prime 23 = .ok (.aload_n 0, 1) := by decide +kernel
theorem d_F_prime_24 : decode b_F_prime 24 = .ok (.invokevirtual 169, 3) := by decide +kernel
theorem d_F_prime_27 : decode b_F_prime 27 = .ok (.iload_n 1, 1) := by decide +kernel
theorem d_F_prime_28 : decode b_F_prime 28 = .ok (.ifCond .lt 14, 3) := by decide +kernel
theorem d_F_prime_31 : decode b_F_prime 31 = .ok (.iload_n 1, 1) := by decide +kernel
theorem d_F_prime_32 : decode b_F_prime 32 = .ok (.aload_n 0, 1) := by decide +kernel
theorem d_F_prime_33 : decode b_F_prime 33 = .ok (.getfield 47, 3) := by decide +kernel
theorem d_F_prime_36 : decode b_F_prime 36 = .ok (.getfield 177, 3) := by decide +kernel
theorem d_F_prime_39 : decode b_F_prime 39 = .ok (.if_icmp .lt 13, 3) := by decide +kernel
theorem d_F_prime_42 : decode b_F_prime 42 = .ok (.new 178, 3) := by decide +kernel
theorem d_F_prime_45 : decode b_F_prime 45 = .ok (.dup, 1) := by decide +kernel
theorem d_F_prime_46 : decode b_F_prime 46 = .ok (.ldc 180, 2) := by decide +kernel
theorem d_F_prime_48 : decode b_F_prime 48 = .ok (.invokespecial 182, 3) := by decide +kernel
theorem d_F_prime_51 : decode b_F_prime 51 = .ok (.athrow, 1) := by decide +kernel
theorem d_F_prime_52 : decode b_F_prime 52 = .ok (.iload_n 2, 1) := by decide +kernel
theorem d_F_prime_53 : decode b_F_prime 53 = .ok (.ifCond .ne 14, 3) := by decide +kernel
theorem d_F_prime_56 : decode b_F_prime 56 = .ok (.aload_n 0, 1) := by decide +kernel
theorem d_F_prime_57 : decode b_F_prime 57 = .ok (.getfield 47, 3) := by decide +kernel
theorem d_F_prime_60 : decode b_F_prime 60 = .ok (.iload_n 1, 1) := by decide +kernel
theorem d_F_prime_61 : decode b_F_prime 61 = .ok (.invokevirtual 183, 3) := by decide +kernel
theorem d_F_prime_64 : decode b_F_prime 64 = .ok (.goto 11, 3) := by decide +kernel
theorem d_F_prime_67 : decode b_F_prime 67 = .ok (.aload_n 0, 1) := by decide +kernel
theorem d_F_prime_68 : decode b_F_prime 68 = .ok (.getfield 47, 3) := by decide +kernel
theorem d_F_prime_71 : decode b_F_prime 71 = .ok (.iload_n 1, 1) := by decide +kernel
theorem d_F_prime_72 : decode b_F_prime 72 = .ok (.invokevirtual 186, 3) := by decide +kernel
theorem d_F_prime_75 : decode b_F_prime 75 = .ok (.ireturn, 1) := by decide +kernel
def rm_F_prime : Room := { frames := 20, cells := 8, slots := 48, locals := 855 }
def f_F_prime_42 (fu : Nat) (w : List va_E) : Option ((String ⊕ Int32) × List va_E) := (some (Sum.inl "java/lang/IndexOutOfBoundsException", w))
def f_F_prime_75 (fu : Nat) (s0 : Int32) (w : List va_E) : Option ((String ⊕ Int32) × List va_E) := (some (Sum.inr s0, w))
def f_F_prime_19 (fu : Nat) (v0 : Nat) (v1 : Int32) (v2 : Int32) (w : List va_E) : Option ((String ⊕ Int32) × List va_E) := ((hp_is w v0 6).bind fun _ => (hx_bd (f_F_needTop fu v0 w) fun _ u3 => ((hp_is u3 v0 6).bind fun _ => (hx_bd (f_F_needTerms fu v0 u3) fun _ u6 => (if v1 < 0 then (f_F_prime_42 fu u6) else ((hp_gr u6 v0 6 5).bind fun q7 => ((hp_gi u6 q7 4 3).bind fun x8 => (if v1 < x8 then (if v2 = 0 then ((hp_gr u6 v0 6 5).bind fun q11 => ((hp_is u6 q11 4).bind fun _ => ((f_X_onOf fu q11 v1 u6).bind fun r12 => (f_F_prime_75 fu (r12.1) r12.2)))) else ((hp_gr u6 v0 6 5).bind fun q9 => ((hp_is u6 q9 4).bind fun _ => ((f_X_offOf fu q9 v1 u6).bind fun r10 => (f_F_prime_75 fu (r10.1) r10.2))))) else (f_F_prime_42 fu u6)))))))))
def f_F_prime (fu : Nat) (v0 : Nat) (v1 : Int32) (v2 : Int32) (w : List va_E) : Option ((String ⊕ Int32) × List va_E) := (if v2 = 0 then (f_F_prime_19 fu (v0) (v1) (v2) w) else (if v2 = (1 : Int32) then (f_F_prime_19 fu (v0) (v1) (v2) w) else (some (Sum.inl "java/lang/IllegalArgumentException", w))))
section
variable {p : Program} {l : Launch} {e : Env} {s : State} {m : MethodId} {args : Array Value} {below : List Frame} {meth : Method} {c : Code} {D : va_G} {ca : Nat → Nat} {A : Nat → Prop} {ad : Nat → Nat}
set_option maxRecDepth 100000 in
set_option maxHeartbeats 4000000 in
theorem v_F_prime_42 (K : av_K p s m args meth c D cl8 ca A b_F_prime 3 R_F WS) (G : av_G NS tabON A s s.heap) (X : av_X A s s.heap) (hx : ∀ x ∈ c.exceptionTable.toList, False) (hl : l.stackTraces = false) (hr : meth.sig.returnType = some .int) (fu : Nat) {r : (String ⊕ Int32) × List va_E} (w : List va_E) (h : f_F_prime_42 fu w = some r) : av_XVI p l e rm_F_prime s m args below meth c D cl8 A ad ca 3 8 48 r 2 12 42 [none, none, none] [] w := by
  unfold f_F_prime_42 at h
  obtain rfl := Option.some.inj h
  exact av_throw K X hx hl rfl (by decide) (text := "no such prime term") (by decide) xk_178 xi_178 x1_182 x2_182 x3_182 x4_178 d_F_prime_42 d_F_prime_45 d_F_prime_46 d_F_prime_48 d_F_prime_51 (Nat.le_of_ble_eq_true rfl) (Nat.le_of_ble_eq_true rfl) (Nat.le_of_ble_eq_true rfl) (Nat.le_of_ble_eq_true rfl) (Nat.le_of_ble_eq_true rfl) (Nat.le_of_ble_eq_true rfl) rfl
set_option maxRecDepth 100000 in
set_option maxHeartbeats 4000000 in
theorem v_F_prime_75 (K : av_K p s m args meth c D cl8 ca A b_F_prime 3 R_F WS) (G : av_G NS tabON A s s.heap) (X : av_X A s s.heap) (hx : ∀ x ∈ c.exceptionTable.toList, False) (hl : l.stackTraces = false) (hr : meth.sig.returnType = some .int) (fu : Nat) {r : (String ⊕ Int32) × List va_E} (s0 : Int32) (w : List va_E) (h : f_F_prime_75 fu s0 w = some r) : av_XVI p l e rm_F_prime s m args below meth c D cl8 A ad ca 3 8 48 r 2 12 75 [none, none, none] [.int s0] w := by
  unfold f_F_prime_75 at h
  obtain rfl := Option.some.inj h
  exact av_xret (av_ireturn K hr d_F_prime_75 rfl) (Nat.le_of_ble_eq_true rfl) (Nat.le_of_ble_eq_true rfl)
set_option maxRecDepth 100000 in
set_option maxHeartbeats 4000000 in
theorem v_F_prime_19 (K : av_K p s m args meth c D cl8 ca A b_F_prime 3 R_F WS) (G : av_G NS tabON A s s.heap) (X : av_X A s s.heap) (hx : ∀ x ∈ c.exceptionTable.toList, False) (hl : l.stackTraces = false) (hr : meth.sig.returnType = some .int) (fu : Nat) {r : (String ⊕ Int32) × List va_E} (v0 : Nat) (v1 : Int32) (v2 : Int32) (w : List va_E) (h : f_F_prime_19 fu v0 v1 v2 w = some r) : av_XVI p l e rm_F_prime s m args below meth c D cl8 A ad ca 3 8 48 r 0 0 19 [some (.ref v0), some (.int v1), some (.int v2)] [] w := by
  unfold f_F_prime_19 at h
  refine av_aload_n K d_F_prime_19 rfl rfl ?_
  obtain ⟨_, eo20, h⟩ := hp_bd h
  obtain ⟨fs20, ho20⟩ := hp_is_of eo20
  obtain ⟨r1, er1, lr1, h⟩ := hx_of h
  refine av_xVv K G X hx (c_F_needTop hl er1) (cwV 0 K.2.2.2.2.1 (gV ml_F_140 im_F_needTop se_F_needTop in_F co_F_needTop) rfl rfl rfl cd_F_needTop ⟨(Nat.le_of_ble_eq_true rfl), (Nat.le_of_ble_eq_true rfl)⟩) rfl ho20 rfl rfl (Nat.le_of_ble_eq_true rfl) d_F_prime_20 ⟨(Nat.le_of_ble_eq_true rfl), (Nat.le_of_ble_eq_true rfl)⟩ (Nat.le_of_ble_eq_true rfl) (Nat.le_of_ble_eq_true rfl) (fun E9 u9 h9 => (lr1 E9 u9 h9.symm).symm) (fun u3 h9 => ?_)
  have h := h () u3 h9.symm
  refine av_aload_n K d_F_prime_23 rfl rfl ?_
  obtain ⟨_, eo24, h⟩ := hp_bd h
  obtain ⟨fs24, ho24⟩ := hp_is_of eo24
  obtain ⟨r4, er4, lr4, h⟩ := hx_of h
  refine av_xVv K G X hx (c_F_needTerms hl er4) (cwV 0 K.2.2.2.2.1 (gV ml_F_169 im_F_needTerms se_F_needTerms in_F co_F_needTerms) rfl rfl rfl cd_F_needTerms ⟨(Nat.le_of_ble_eq_true rfl), (Nat.le_of_ble_eq_true rfl)⟩) rfl ho24 rfl rfl (Nat.le_of_ble_eq_true rfl) d_F_prime_24 ⟨(Nat.le_of_ble_eq_true rfl), (Nat.le_of_ble_eq_true rfl)⟩ (Nat.le_of_ble_eq_true rfl) (Nat.le_of_ble_eq_true rfl) (fun E9 u9 h9 => (lr4 E9 u9 h9.symm).symm) (fun u6 h9 => ?_)
  have h := h () u6 h9.symm
  refine av_iload_n K d_F_prime_27 rfl rfl ?_
  refine av_if_lt (tgt := 42) K d_F_prime_28 rfl (fun hc => ?_) (fun hc => ?_)
  · rw [if_pos hc] at h
    refine av_wd (k := 2) (n := 12) (Nat.le_of_ble_eq_true rfl) (Nat.le_of_ble_eq_true rfl) ?_
    refine hv_fg (L' := [none, none, none]) [0, 1, 2] rfl ?_
    exact v_F_prime_42 K G X hx hl hr fu _ h
  · rw [if_neg hc] at h
    refine av_iload_n K d_F_prime_31 rfl rfl ?_
    refine av_aload_n K d_F_prime_32 rfl rfl ?_
    obtain ⟨q7, eq7, h⟩ := hp_bd h
    refine hv_gr K fl_F_47 d_F_prime_33 eq7 ?_
    obtain ⟨x8, ex8, h⟩ := hp_bd h
    refine hv_giN K G fl_F_177 d_F_prime_36 ex8 ?_
    refine av_icmp_lt (tgt := 52) K d_F_prime_39 rfl (fun hc => ?_) (fun hc => ?_)
    · rw [if_pos hc] at h
      refine av_iload_n K d_F_prime_52 rfl rfl ?_
      refine av_if_ne (tgt := 67) K d_F_prime_53 rfl (fun hc => ?_) (fun hc => ?_)
      · rw [if_neg hc] at h
        refine av_aload_n K d_F_prime_67 rfl rfl ?_
        obtain ⟨q9, eq9, h⟩ := hp_bd h
        refine hv_gr K fl_F_47 d_F_prime_68 eq9 ?_
        refine av_iload_n K d_F_prime_71 rfl rfl ?_
        obtain ⟨_, eo72, h⟩ := hp_bd h
        obtain ⟨r10, er10, h⟩ := hp_bd h
        obtain ⟨fs72, ho72⟩ := hp_is_of eo72
        refine av_cVi K G (c_X_offOf (tab := tabON) er10) (cwV 1 K.2.2.2.2.1 (gV ml_F_186 im_X_offOf se_X_offOf in_X co_X_offOf) rfl rfl rfl cd_X_offOf ⟨Nat.le_of_ble_eq_true rfl, Nat.le_of_ble_eq_true rfl⟩) rfl ho72 rfl rfl (Nat.le_of_ble_eq_true rfl) d_F_prime_72 ⟨Nat.le_of_ble_eq_true rfl, Nat.le_of_ble_eq_true rfl⟩ (fun a9 u9 h9 => ?_)
        obtain ⟨rfl, rfl⟩ : a9 = r10.1 ∧ u9 = r10.2 := ⟨congrArg Prod.fst h9, congrArg Prod.snd h9⟩
        refine av_wd (k := 2) (n := 12) (Nat.le_of_ble_eq_true rfl) (Nat.le_of_ble_eq_true rfl) ?_
        refine hv_fg (L' := [none, none, none]) [0, 1, 2] rfl ?_
        exact v_F_prime_75 K G X hx hl hr fu (r10.1) _ h
      · rw [if_pos hc] at h
        refine av_aload_n K d_F_prime_56 rfl rfl ?_
        obtain ⟨q11, eq11, h⟩ := hp_bd h
        refine hv_gr K fl_F_47 d_F_prime_57 eq11 ?_
        refine av_iload_n K d_F_prime_60 rfl rfl ?_
        obtain ⟨_, eo61, h⟩ := hp_bd h
        obtain ⟨r12, er12, h⟩ := hp_bd h
        obtain ⟨fs61, ho61⟩ := hp_is_of eo61
        refine av_cVi K G (c_X_onOf (tab := tabON) er12) (cwV 1 K.2.2.2.2.1 (gV ml_F_183 im_X_onOf se_X_onOf in_X co_X_onOf) rfl rfl rfl cd_X_onOf ⟨Nat.le_of_ble_eq_true rfl, Nat.le_of_ble_eq_true rfl⟩) rfl ho61 rfl rfl (Nat.le_of_ble_eq_true rfl) d_F_prime_61 ⟨Nat.le_of_ble_eq_true rfl, Nat.le_of_ble_eq_true rfl⟩ (fun a9 u9 h9 => ?_)
        obtain ⟨rfl, rfl⟩ : a9 = r12.1 ∧ u9 = r12.2 := ⟨congrArg Prod.fst h9, congrArg Prod.snd h9⟩
        refine av_goto (tgt := 75) K d_F_prime_64 rfl ?_
        refine av_wd (k := 2) (n := 12) (Nat.le_of_ble_eq_true rfl) (Nat.le_of_ble_eq_true rfl) ?_
        refine hv_fg (L' := [none, none, none]) [0, 1, 2] rfl ?_
        exact v_F_prime_75 K G X hx hl hr fu (r12.1) _ h
    · rw [if_neg hc] at h
      refine av_wd (k := 2) (n := 12) (Nat.le_of_ble_eq_true rfl) (Nat.le_of_ble_eq_true rfl) ?_
      refine hv_fg (L' := [none, none, none]) [0, 1, 2] rfl ?_
      exact v_F_prime_42 K G X hx hl hr fu _ h
set_option maxRecDepth 100000 in
set_option maxHeartbeats 4000000 in
theorem v_F_prime (K : av_K p s m args meth c D cl8 ca A b_F_prime 3 R_F WS) (G : av_G NS tabON A s s.heap) (X : av_X A s s.heap) (hx : ∀ x ∈ c.exceptionTable.toList, False) (hl : l.stackTraces = false) (hr : meth.sig.returnType = some .int) (fu : Nat) {r : (String ⊕ Int32) × List va_E} (v0 : Nat) (v1 : Int32) (v2 : Int32) (w : List va_E) (h : f_F_prime fu v0 v1 v2 w = some r) : av_XVI p l e rm_F_prime s m args below meth c D cl8 A ad ca 3 8 48 r 0 0 0 [some (.ref v0), some (.int v1), some (.int v2)] [] w := by
  unfold f_F_prime at h
  refine av_iload_n K d_F_prime_0 rfl rfl ?_
  refine av_if_eq (tgt := 19) K d_F_prime_1 rfl (fun hc => ?_) (fun hc => ?_)
  · rw [if_pos hc] at h
    refine av_wd (k := 0) (n := 0) (Nat.le_of_ble_eq_true rfl) (Nat.le_of_ble_eq_true rfl) ?_
    exact v_F_prime_19 K G X hx hl hr fu (v0) (v1) (v2) _ h
  · rw [if_neg hc] at h
    refine av_iload_n K d_F_prime_4 rfl rfl ?_
    refine av_iconst (v := (1 : Int32)) K d_F_prime_5 (by decide) ?_
    refine av_icmp_eq (tgt := 19) K d_F_prime_6 rfl (fun hc => ?_) (fun hc => ?_)
    · rw [if_pos hc] at h
      refine av_wd (k := 0) (n := 0) (Nat.le_of_ble_eq_true rfl) (Nat.le_of_ble_eq_true rfl) ?_
      exact v_F_prime_19 K G X hx hl hr fu (v0) (v1) (v2) _ h
    · rw [if_neg hc] at h
      obtain rfl := Option.some.inj h
      exact av_throw K X hx hl rfl (by decide) (text := "neither on nor off") (by decide) xk_90 xi_90 x1_94 x2_94 x3_94 x4_90 d_F_prime_9 d_F_prime_12 d_F_prime_13 d_F_prime_15 d_F_prime_18 (Nat.le_of_ble_eq_true rfl) (Nat.le_of_ble_eq_true rfl) (Nat.le_of_ble_eq_true rfl) (Nat.le_of_ble_eq_true rfl) (Nat.le_of_ble_eq_true rfl) (Nat.le_of_ble_eq_true rfl) rfl
end
set_option maxRecDepth 100000 in
theorem c_F_prime {l : Launch} {D : va_G} {ca : Nat → Nat} (hl : l.stackTraces = false) {fu : Nat} {v0 : Nat} {v1 : Int32} {v2 : Int32} {w : List va_E} {r : (String ⊕ Int32) × List va_E} (h : f_F_prime fu v0 v1 v2 w = some r) : av_Xi l D cl8 ca NS tabON y_F_prime w_F_prime rm_F_prime 8 48 [.ref v0, .int v1, .int v2] w (fun v u => (Sum.inr v, u) = r) (fun E u => (Sum.inl E, u) = r) :=
  av_inXI (cc := b_F_prime) (nL := 3) (by decide +kernel) rfl (Nat.le_of_ble_eq_true rfl) (fun p e s m args below meth c A ad K G X hx hr => v_F_prime K G X hx hl hr fu v0 v1 v2 w h)

-- FaultTreeDesk.share(I)I
theorem d_F_share_0 : decode b_F_share 0 = .ok (.aload_n 0, 1) := by decide +kernel
theorem d_F_share_1 : decode b_F_share 1 = .ok (.iload_n 1, 1) := by decide +kernel
theorem d_F_share_2 : decode b_F_share 2 = .ok (.invokevirtual 83, 3) := by decide +kernel
theorem d_F_share_5 : decode b_F_share 5 = .ok (.aload_n 0, 1) := by decide +kernel
theorem d_F_share_6 : decode b_F_share 6 = .ok (.invokevirtual 140, 3) := by decide +kernel
theorem d_F_share_9 : decode b_F_share 9 = .ok (.aload_n 0, 1) := by decide +kernel
theorem d_F_share_10 : decode b_F_share 10 = .ok (.invokevirtual 169, 3) := by decide +kernel
theorem d_F_share_13 : decode b_F_share 13 = .ok (.aload_n 0, 1) := by decide +kernel
theorem d_F_share_14 : decode b_F_share 14 = .ok (.getfield 47, 3) := by decide +kernel
theorem d_F_share_17 : decode b_F_share 17 = .ok (.iload_n 1, 1) := by decide +kernel
theorem d_F_share_18 : decode b_F_share 18 = .ok (.invokevirtual 189, 3) := by decide +kernel
theorem d_F_share_21 : decode b_F_share 21 = .ok (.ireturn, 1) := by decide +kernel
def rm_F_share : Room := { frames := 20, cells := 8, slots := 48, locals := 855 }
def f_F_share (fu : Nat) (v0 : Nat) (v1 : Int32) (w : List va_E) : Option ((String ⊕ Int32) × List va_E) := ((hp_is w v0 6).bind fun _ => (hx_bd (f_F_needEvent fu v0 v1 w) fun _ u3 => ((hp_is u3 v0 6).bind fun _ => (hx_bd (f_F_needTop fu v0 u3) fun _ u6 => ((hp_is u6 v0 6).bind fun _ => (hx_bd (f_F_needTerms fu v0 u6) fun _ u9 => ((hp_gr u9 v0 6 5).bind fun q10 => ((hp_is u9 q10 4).bind fun _ => ((f_X_countWith fu q10 v1 u9).bind fun r11 => (some (Sum.inr r11.1, r11.2)))))))))))
section
variable {p : Program} {l : Launch} {e : Env} {s : State} {m : MethodId} {args : Array Value} {below : List Frame} {meth : Method} {c : Code} {D : va_G} {ca : Nat → Nat} {A : Nat → Prop} {ad : Nat → Nat}
set_option maxRecDepth 100000 in
set_option maxHeartbeats 4000000 in
theorem v_F_share (K : av_K p s m args meth c D cl8 ca A b_F_share 2 R_F WS) (G : av_G NS tabON A s s.heap) (X : av_X A s s.heap) (hx : ∀ x ∈ c.exceptionTable.toList, False) (hl : l.stackTraces = false) (hr : meth.sig.returnType = some .int) (fu : Nat) {r : (String ⊕ Int32) × List va_E} (v0 : Nat) (v1 : Int32) (w : List va_E) (h : f_F_share fu v0 v1 w = some r) : av_XVI p l e rm_F_share s m args below meth c D cl8 A ad ca 2 8 48 r 0 0 0 [some (.ref v0), some (.int v1)] [] w := by
  unfold f_F_share at h
  refine av_aload_n K d_F_share_0 rfl rfl ?_
  refine av_iload_n K d_F_share_1 rfl rfl ?_
  obtain ⟨_, eo2, h⟩ := hp_bd h
  obtain ⟨fs2, ho2⟩ := hp_is_of eo2
  obtain ⟨r1, er1, lr1, h⟩ := hx_of h
  refine av_xVv K G X hx (c_F_needEvent hl er1) (cwV 1 K.2.2.2.2.1 (gV ml_F_83 im_F_needEvent se_F_needEvent in_F co_F_needEvent) rfl rfl rfl cd_F_needEvent ⟨(Nat.le_of_ble_eq_true rfl), (Nat.le_of_ble_eq_true rfl)⟩) rfl ho2 rfl rfl (Nat.le_of_ble_eq_true rfl) d_F_share_2 ⟨(Nat.le_of_ble_eq_true rfl), (Nat.le_of_ble_eq_true rfl)⟩ (Nat.le_of_ble_eq_true rfl) (Nat.le_of_ble_eq_true rfl) (fun E9 u9 h9 => (lr1 E9 u9 h9.symm).symm) (fun u3 h9 => ?_)
  have h := h () u3 h9.symm
  refine av_aload_n K d_F_share_5 rfl rfl ?_
  obtain ⟨_, eo6, h⟩ := hp_bd h
  obtain ⟨fs6, ho6⟩ := hp_is_of eo6
  obtain ⟨r4, er4, lr4, h⟩ := hx_of h
  refine av_xVv K G X hx (c_F_needTop hl er4) (cwV 0 K.2.2.2.2.1 (gV ml_F_140 im_F_needTop se_F_needTop in_F co_F_needTop) rfl rfl rfl cd_F_needTop ⟨(Nat.le_of_ble_eq_true rfl), (Nat.le_of_ble_eq_true rfl)⟩) rfl ho6 rfl rfl (Nat.le_of_ble_eq_true rfl) d_F_share_6 ⟨(Nat.le_of_ble_eq_true rfl), (Nat.le_of_ble_eq_true rfl)⟩ (Nat.le_of_ble_eq_true rfl) (Nat.le_of_ble_eq_true rfl) (fun E9 u9 h9 => (lr4 E9 u9 h9.symm).symm) (fun u6 h9 => ?_)
  have h := h () u6 h9.symm
  refine av_aload_n K d_F_share_9 rfl rfl ?_
  obtain ⟨_, eo10, h⟩ := hp_bd h
  obtain ⟨fs10, ho10⟩ := hp_is_of eo10
  obtain ⟨r7, er7, lr7, h⟩ := hx_of h
  refine av_xVv K G X hx (c_F_needTerms hl er7) (cwV 0 K.2.2.2.2.1 (gV ml_F_169 im_F_needTerms se_F_needTerms in_F co_F_needTerms) rfl rfl rfl cd_F_needTerms ⟨(Nat.le_of_ble_eq_true rfl), (Nat.le_of_ble_eq_true rfl)⟩) rfl ho10 rfl rfl (Nat.le_of_ble_eq_true rfl) d_F_share_10 ⟨(Nat.le_of_ble_eq_true rfl), (Nat.le_of_ble_eq_true rfl)⟩ (Nat.le_of_ble_eq_true rfl) (Nat.le_of_ble_eq_true rfl) (fun E9 u9 h9 => (lr7 E9 u9 h9.symm).symm) (fun u9 h9 => ?_)
  have h := h () u9 h9.symm
  refine av_aload_n K d_F_share_13 rfl rfl ?_
  obtain ⟨q10, eq10, h⟩ := hp_bd h
  refine hv_gr K fl_F_47 d_F_share_14 eq10 ?_
  refine av_iload_n K d_F_share_17 rfl rfl ?_
  obtain ⟨_, eo18, h⟩ := hp_bd h
  obtain ⟨r11, er11, h⟩ := hp_bd h
  obtain ⟨fs18, ho18⟩ := hp_is_of eo18
  refine av_cVi K G (c_X_countWith (tab := tabON) er11) (cwV 1 K.2.2.2.2.1 (gV ml_F_189 im_X_countWith se_X_countWith in_X co_X_countWith) rfl rfl rfl cd_X_countWith ⟨Nat.le_of_ble_eq_true rfl, Nat.le_of_ble_eq_true rfl⟩) rfl ho18 rfl rfl (Nat.le_of_ble_eq_true rfl) d_F_share_18 ⟨Nat.le_of_ble_eq_true rfl, Nat.le_of_ble_eq_true rfl⟩ (fun a9 u9 h9 => ?_)
  obtain ⟨rfl, rfl⟩ : a9 = r11.1 ∧ u9 = r11.2 := ⟨congrArg Prod.fst h9, congrArg Prod.snd h9⟩
  obtain rfl := Option.some.inj h
  exact av_xret (av_ireturn K hr d_F_share_21 rfl) (Nat.le_of_ble_eq_true rfl) (Nat.le_of_ble_eq_true rfl)
end
set_option maxRecDepth 100000 in
theorem c_F_share {l : Launch} {D : va_G} {ca : Nat → Nat} (hl : l.stackTraces = false) {fu : Nat} {v0 : Nat} {v1 : Int32} {w : List va_E} {r : (String ⊕ Int32) × List va_E} (h : f_F_share fu v0 v1 w = some r) : av_Xi l D cl8 ca NS tabON y_F_share w_F_share rm_F_share 8 48 [.ref v0, .int v1] w (fun v u => (Sum.inr v, u) = r) (fun E u => (Sum.inl E, u) = r) :=
  av_inXI (cc := b_F_share) (nL := 2) (by decide +kernel) rfl (Nat.le_of_ble_eq_true rfl) (fun p e s m args below meth c A ad K G X hx hr => v_F_share K G X hx hl hr fu v0 v1 w h)

-- FaultTreeDesk.modules()I
theorem d_F_modules_0 : decode b_F_modules 0 = .ok (.aload_n 0, 1) := by decide +kernel
theorem d_F_modules_1 : decode b_F_modules 1 = .ok (.invokevirtual 140, 3) := by decide +kernel
theorem d_F_modules_4 : decode b_F_modules 4 = .ok (.aload_n 0, 1) := by decide +kernel
theorem d_F_modules_5 : decode b_F_modules 5 = .ok (.getfield 19, 3) := by decide +kernel
theorem d_F_modules_8 : decode b_F_modules 8 = .ok (.aload_n 0, 1) := by decide +kernel
theorem d_F_modules_9 : decode b_F_modules 9 = .ok (.getfield 51, 3) := by decide +kernel
theorem d_F_modules_12 : decode b_F_modules 12 = .ok (.invokevirtual 192, 3) := by decide +kernel
theorem d_F_modules_15 : decode b_F_modules 15 = .ok (.ireturn, 1) := by decide +kernel
def rm_F_modules : Room := { frames := 7, cells := 8, slots := 48, locals := 130 }
def f_F_modules (fu : Nat) (v0 : Nat) (w : List va_E) : Option ((String ⊕ Int32) × List va_E) := ((hp_is w v0 6).bind fun _ => (hx_bd (f_F_needTop fu v0 w) fun _ u3 => ((hp_gr u3 v0 6 1).bind fun q4 => ((hp_gi u3 v0 6 6).bind fun x5 => ((hp_is u3 q4 2).bind fun _ => ((f_G_moduleSum fu q4 x5 u3).bind fun r6 => (some (Sum.inr r6.1, r6.2))))))))
section
variable {p : Program} {l : Launch} {e : Env} {s : State} {m : MethodId} {args : Array Value} {below : List Frame} {meth : Method} {c : Code} {D : va_G} {ca : Nat → Nat} {A : Nat → Prop} {ad : Nat → Nat}
set_option maxRecDepth 100000 in
set_option maxHeartbeats 4000000 in
theorem v_F_modules (K : av_K p s m args meth c D cl8 ca A b_F_modules 1 R_F WS) (G : av_G NS tabON A s s.heap) (X : av_X A s s.heap) (hx : ∀ x ∈ c.exceptionTable.toList, False) (hl : l.stackTraces = false) (hr : meth.sig.returnType = some .int) (fu : Nat) {r : (String ⊕ Int32) × List va_E} (v0 : Nat) (w : List va_E) (h : f_F_modules fu v0 w = some r) : av_XVI p l e rm_F_modules s m args below meth c D cl8 A ad ca 1 8 48 r 0 0 0 [some (.ref v0)] [] w := by
  unfold f_F_modules at h
  refine av_aload_n K d_F_modules_0 rfl rfl ?_
  obtain ⟨_, eo1, h⟩ := hp_bd h
  obtain ⟨fs1, ho1⟩ := hp_is_of eo1
  obtain ⟨r1, er1, lr1, h⟩ := hx_of h
  refine av_xVv K G X hx (c_F_needTop hl er1) (cwV 0 K.2.2.2.2.1 (gV ml_F_140 im_F_needTop se_F_needTop in_F co_F_needTop) rfl rfl rfl cd_F_needTop ⟨(Nat.le_of_ble_eq_true rfl), (Nat.le_of_ble_eq_true rfl)⟩) rfl ho1 rfl rfl (Nat.le_of_ble_eq_true rfl) d_F_modules_1 ⟨(Nat.le_of_ble_eq_true rfl), (Nat.le_of_ble_eq_true rfl)⟩ (Nat.le_of_ble_eq_true rfl) (Nat.le_of_ble_eq_true rfl) (fun E9 u9 h9 => (lr1 E9 u9 h9.symm).symm) (fun u3 h9 => ?_)
  have h := h () u3 h9.symm
  refine av_aload_n K d_F_modules_4 rfl rfl ?_
  obtain ⟨q4, eq4, h⟩ := hp_bd h
  refine hv_gr K fl_F_19 d_F_modules_5 eq4 ?_
  refine av_aload_n K d_F_modules_8 rfl rfl ?_
  obtain ⟨x5, ex5, h⟩ := hp_bd h
  refine hv_gi K fl_F_51 d_F_modules_9 ex5 ?_
  obtain ⟨_, eo12, h⟩ := hp_bd h
  obtain ⟨r6, er6, h⟩ := hp_bd h
  obtain ⟨fs12, ho12⟩ := hp_is_of eo12
  refine av_cVi K G (c_G_moduleSum (tab := tabON) er6) (cwV 1 K.2.2.2.2.1 (gV ml_F_192 im_G_moduleSum se_G_moduleSum in_G co_G_moduleSum) rfl rfl rfl cd_G_moduleSum ⟨Nat.le_of_ble_eq_true rfl, Nat.le_of_ble_eq_true rfl⟩) rfl ho12 rfl rfl (Nat.le_of_ble_eq_true rfl) d_F_modules_12 ⟨Nat.le_of_ble_eq_true rfl, Nat.le_of_ble_eq_true rfl⟩ (fun a9 u9 h9 => ?_)
  obtain ⟨rfl, rfl⟩ : a9 = r6.1 ∧ u9 = r6.2 := ⟨congrArg Prod.fst h9, congrArg Prod.snd h9⟩
  obtain rfl := Option.some.inj h
  exact av_xret (av_ireturn K hr d_F_modules_15 rfl) (Nat.le_of_ble_eq_true rfl) (Nat.le_of_ble_eq_true rfl)
end
set_option maxRecDepth 100000 in
theorem c_F_modules {l : Launch} {D : va_G} {ca : Nat → Nat} (hl : l.stackTraces = false) {fu : Nat} {v0 : Nat} {w : List va_E} {r : (String ⊕ Int32) × List va_E} (h : f_F_modules fu v0 w = some r) : av_Xi l D cl8 ca NS tabON y_F_modules w_F_modules rm_F_modules 8 48 [.ref v0] w (fun v u => (Sum.inr v, u) = r) (fun E u => (Sum.inl E, u) = r) :=
  av_inXI (cc := b_F_modules) (nL := 1) (by decide +kernel) rfl (Nat.le_of_ble_eq_true rfl) (fun p e s m args below meth c A ad K G X hx hr => v_F_modules K G X hx hl hr fu v0 w h)
