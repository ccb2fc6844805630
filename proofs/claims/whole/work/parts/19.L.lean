theorem lk_13 : Cond.classLink R_L 13 "java/lang/IllegalArgumentException" ∈ WS := ws_t (List.mem_of_getElem? (i := 190) (by decide +kernel)) (by decide +kernel)
theorem lk_15 : Cond.classLink R_L 15 "java/lang/IllegalStateException" ∈ WS := ws_t (List.mem_of_getElem? (i := 191) (by decide +kernel)) (by decide +kernel)
theorem ml_L_7 : Cond.methodLink R_L 7 y_F_event ∈ WS := ws_t (List.mem_of_getElem? (i := 192) (by decide +kernel)) (by decide +kernel)
theorem ml_L_17 : Cond.methodLink R_L 17 y_F_chance ∈ WS := ws_t (List.mem_of_getElem? (i := 296) (by decide +kernel)) (by decide +kernel)
theorem ml_L_21 : Cond.methodLink R_L 21 y_F_hold ∈ WS := ws_t (List.mem_of_getElem? (i := 312) (by decide +kernel)) (by decide +kernel)
theorem ml_L_24 : Cond.methodLink R_L 24 y_F_gate ∈ WS := ws_t (List.mem_of_getElem? (i := 320) (by decide +kernel)) (by decide +kernel)
theorem lk_30 : Cond.classLink R_L 30 "java/lang/UnsupportedOperationException" ∈ WS := ws_t (List.mem_of_getElem? (i := 334) (by decide +kernel)) (by decide +kernel)
theorem ml_L_27 : Cond.methodLink R_L 27 y_F_input ∈ WS := ws_t (List.mem_of_getElem? (i := 335) (by decide +kernel)) (by decide +kernel)
theorem ml_L_32 : Cond.methodLink R_L 32 y_F_top ∈ WS := ws_t (List.mem_of_getElem? (i := 399) (by decide +kernel)) (by decide +kernel)
theorem ml_L_36 : Cond.methodLink R_L 36 y_F_value ∈ WS := ws_t (List.mem_of_getElem? (i := 406) (by decide +kernel)) (by decide +kernel)
theorem ml_L_40 : Cond.methodLink R_L 40 y_F_odds ∈ WS := ws_t (List.mem_of_getElem? (i := 461) (by decide +kernel)) (by decide +kernel)
theorem ml_L_44 : Cond.methodLink R_L 44 y_F_digit ∈ WS := ws_t (List.mem_of_getElem? (i := 473) (by decide +kernel)) (by decide +kernel)
theorem ml_L_47 : Cond.methodLink R_L 47 y_F_weight ∈ WS := ws_t (List.mem_of_getElem? (i := 486) (by decide +kernel)) (by decide +kernel)
theorem ml_L_51 : Cond.methodLink R_L 51 y_F_nodes ∈ WS := ws_t (List.mem_of_getElem? (i := 493) (by decide +kernel)) (by decide +kernel)
theorem ml_L_55 : Cond.methodLink R_L 55 y_F_primes ∈ WS := ws_t (List.mem_of_getElem? (i := 509) (by decide +kernel)) (by decide +kernel)
theorem lk_61 : Cond.classLink R_L 61 "java/lang/IndexOutOfBoundsException" ∈ WS := ws_t (List.mem_of_getElem? (i := 570) (by decide +kernel)) (by decide +kernel)
theorem ml_L_58 : Cond.methodLink R_L 58 y_F_prime ∈ WS := ws_t (List.mem_of_getElem? (i := 571) (by decide +kernel)) (by decide +kernel)
theorem ml_L_63 : Cond.methodLink R_L 63 y_F_share ∈ WS := ws_t (List.mem_of_getElem? (i := 603) (by decide +kernel)) (by decide +kernel)
theorem ml_L_66 : Cond.methodLink R_L 66 y_F_modules ∈ WS := ws_t (List.mem_of_getElem? (i := 616) (by decide +kernel)) (by decide +kernel)
-- FaultTreeDeskLaw.event(LFaultTreeDesk;I[J)I
abbrev b_L_event : ByteArray := method_3_code
def y_L_event : MethodName := ⟨"FaultTreeDeskLaw", "event", "(LFaultTreeDesk;I[J)I"⟩
def hh_L_event : List (Nat × Nat × Nat × Nat) := [(0, 9, 12, 13), (0, 9, 15, 15)]
def w_L_event : List Cond := Cond.codeWith y_L_event b_L_event 4 (some .int) hh_L_event :: WS
set_option maxRecDepth 100000 in
theorem co_L_event : Cond.codeWith y_L_event b_L_event 4 (some .int) hh_L_event ∈ WS := ws_t (List.mem_of_getElem? (i := 189) rfl) rfl
theorem sm_L_event : Cond.static y_L_event ∈ WS := ws_t (List.mem_of_getElem? (i := 188) (by decide +kernel)) (by decide +kernel)
theorem ce_L_event : y_L_event.cls ≠ "java/lang/invoke/MethodHandle" ∧ y_L_event.cls ≠ "java/lang/invoke/VarHandle" ∧ (parseMethodDescriptor y_L_event.desc).map (fun d => d.parameters.length) = some 3 := by decide +kernel
theorem d_L_event_0 : decode b_L_event 0 = .ok (.aload_n 2, 1) := by decide +kernel
theorem d_L_event_1 : decode b_L_event 1 = .ok (.iconst 0, 1) := by decide +kernel
theorem d_L_event_2 : decode b_L_event 2 = .ok (.aload_n 0, 1) := by decide +kernel
theorem d_L_event_3 : decode b_L_event 3 = .ok (.iload_n 1, 1) := by decide +kernel
theorem d_L_event_4 : decode b_L_event 4 = .ok (.invokevirtual 7, 3) := by decide +kernel
theorem d_L_event_7 : decode b_L_event 7 = .ok (.i2l, 1) := by decide +kernel
theorem d_L_event_8 : decode b_L_event 8 = .ok (.lastore, 1) := by decide +kernel
theorem d_L_event_9 : decode b_L_event 9 = .ok (.goto 9, 3) := by decide +kernel
theorem d_L_event_12 : decode b_L_event 12 = .ok (.astore_n 3, 1) := by decide +kernel
theorem d_L_event_13 : decode b_L_event 13 = .ok (.iconst 1, 1) := by decide +kernel
theorem d_L_event_14 : decode b_L_event 14 = .ok (.ireturn, 1) := by decide +kernel
theorem d_L_event_15 : decode b_L_event 15 = .ok (.astore_n 3, 1) := by decide +kernel
theorem d_L_event_16 : decode b_L_event 16 = .ok (.iconst 2, 1) := by decide +kernel
theorem d_L_event_17 : decode b_L_event 17 = .ok (.ireturn, 1) := by decide +kernel
theorem d_L_event_18 : decode b_L_event 18 = .ok (.iconst 0, 1) := by decide +kernel
theorem d_L_event_19 : decode b_L_event 19 = .ok (.ireturn, 1) := by decide +kernel
def rm_L_event : Room := { frames := 8, cells := 8, slots := 48, locals := 152 }
def f_L_event (fu : Nat) (v0 : Nat) (v1 : Int32) (v2 : Nat) (w : List va_E) : Option (Int32 × List va_E) := ((hp_is w v0 6).bind fun _ => (hl_bd (f_F_event fu v0 v1 w) (fun E9 u9 => if E9 = "java/lang/IllegalArgumentException" then some ((1 : Int32), u9) else if E9 = "java/lang/IllegalStateException" then some ((2 : Int32), u9) else none) fun a2 u3 => ((hp_wl u3 v2 (0 : Int32) (a2).toInt64).bind fun w4 => (some ((0 : Int32), w4)))))
section
variable {p : Program} {l : Launch} {e : Env} {s : State} {m : MethodId} {args : Array Value} {below : List Frame} {meth : Method} {c : Code} {D : va_G} {ca : Nat → Nat} {A : Nat → Prop} {ad : Nat → Nat}
set_option maxRecDepth 100000 in
set_option maxHeartbeats 4000000 in
theorem v_L_event (K : av_K p s m args meth c D cl8 ca A b_L_event 4 R_L WS) (G : av_G NS tabON A s s.heap) (X : av_X A s s.heap) (N : av_N s) (hl : l.stackTraces = false) (ht : c.exceptionTable.toList = tableOf hh_L_event) (hr : meth.sig.returnType = some .int) (fu : Nat) {r : Int32 × List va_E} (v0 : Nat) (v1 : Int32) (v2 : Nat) (w : List va_E) (h : f_L_event fu v0 v1 v2 w = some r) : av_HVI p l e rm_L_event s m args below meth c D cl8 A ad ca 4 r 0 0 0 [some (.ref v0), some (.int v1), some (.ref v2), none] [] w := by
  unfold f_L_event at h
  refine av_aload_n K d_L_event_0 rfl rfl ?_
  refine av_iconst (v := (0 : Int32)) K d_L_event_1 (by decide) ?_
  refine av_aload_n K d_L_event_2 rfl rfl ?_
  refine av_iload_n K d_L_event_3 rfl rfl ?_
  obtain ⟨_, eo4, h⟩ := hp_bd h
  obtain ⟨fs4, ho4⟩ := hp_is_of eo4
  obtain ⟨r1, er1, lr1, h⟩ := hl_of h
  refine av_hVi K G X (c_F_event hl er1) (cwV 1 K.2.2.2.2.1 (gV ml_L_7 im_F_event se_F_event in_F co_F_event) rfl rfl rfl cd_F_event ⟨(Nat.le_of_ble_eq_true rfl), (Nat.le_of_ble_eq_true rfl)⟩) rfl ho4 rfl rfl (Nat.le_of_ble_eq_true rfl) d_L_event_4 ⟨(Nat.le_of_ble_eq_true rfl), (Nat.le_of_ble_eq_true rfl)⟩ (fun E9 u9 h9 => ?_) (fun a2 u3 h9 => ?_)
  · have hq := lr1 E9 u9 h9.symm
    by_cases e0 : E9 = "java/lang/IllegalArgumentException"
    · rw [if_pos e0] at hq
      subst e0
      obtain rfl := Option.some.inj hq
      exact av_hand K X N ht hr (by decide) [] ⟨0, 9, 12, 13⟩ [⟨0, 9, 15, 15⟩] rfl (fun _ h => nomatch h) (by decide) (by decide) lk_13 (Or.inl ⟨d_L_event_12, rfl, rfl⟩) (Nat.le_of_ble_eq_true rfl) d_L_event_13 (by decide) d_L_event_14 rfl
    · rw [if_neg e0] at hq
      by_cases e1 : E9 = "java/lang/IllegalStateException"
      · rw [if_pos e1] at hq
        subst e1
        obtain rfl := Option.some.inj hq
        exact av_hand K X N ht hr (by decide) [⟨0, 9, 12, 13⟩] ⟨0, 9, 15, 15⟩ [] rfl (List.forall_mem_cons.mpr ⟨⟨by decide, _, lk_13, by decide⟩, (fun _ h => nomatch h)⟩) (by decide) (by decide) lk_15 (Or.inl ⟨d_L_event_15, rfl, rfl⟩) (Nat.le_of_ble_eq_true rfl) d_L_event_16 (by decide) d_L_event_17 rfl
      · rw [if_neg e1] at hq
        cases hq
  · have h := h a2 u3 h9.symm
    refine av_i2l K d_L_event_7 ?_
    obtain ⟨w4, ew4, h⟩ := hp_bd h
    refine hv_wl K d_L_event_8 ew4 ?_
    refine av_goto (tgt := 18) K d_L_event_9 rfl ?_
    refine av_iconst (v := (0 : Int32)) K d_L_event_18 (by decide) ?_
    obtain rfl := Option.some.inj h
    exact av_ireturn K hr d_L_event_19 rfl
end
set_option maxRecDepth 100000 in
theorem c_L_event {l : Launch} {D : va_G} {ca : Nat → Nat} (hl : l.stackTraces = false) {fu : Nat} {v0 : Nat} {v1 : Int32} {v2 : Nat} {w : List va_E} {r : Int32 × List va_E} (h : f_L_event fu v0 v1 v2 w = some r) : av_Hi l D cl8 ca NS tabON y_L_event w_L_event rm_L_event 8 48 [.ref v0, .int v1, .ref v2] w (fun v u => (v, u) = r) :=
  av_inH (cc := b_L_event) (nL := 4) (hh := hh_L_event) (by decide +kernel) rfl (Nat.le_of_ble_eq_true rfl) (fun p e s m args below meth c A ad K G X N ht hr => v_L_event K G X N hl ht hr fu v0 v1 v2 w h)

-- FaultTreeDeskLaw.chance(LFaultTreeDesk;II[J)I
abbrev b_L_chance : ByteArray := method_4_code
def y_L_chance : MethodName := ⟨"FaultTreeDeskLaw", "chance", "(LFaultTreeDesk;II[J)I"⟩
def hh_L_chance : List (Nat × Nat × Nat × Nat) := [(0, 10, 13, 13)]
def w_L_chance : List Cond := Cond.codeWith y_L_chance b_L_chance 5 (some .int) hh_L_chance :: WS
set_option maxRecDepth 100000 in
theorem co_L_chance : Cond.codeWith y_L_chance b_L_chance 5 (some .int) hh_L_chance ∈ WS := ws_t (List.mem_of_getElem? (i := 295) rfl) rfl
theorem sm_L_chance : Cond.static y_L_chance ∈ WS := ws_t (List.mem_of_getElem? (i := 294) (by decide +kernel)) (by decide +kernel)
theorem ce_L_chance : y_L_chance.cls ≠ "java/lang/invoke/MethodHandle" ∧ y_L_chance.cls ≠ "java/lang/invoke/VarHandle" ∧ (parseMethodDescriptor y_L_chance.desc).map (fun d => d.parameters.length) = some 4 := by decide +kernel
theorem d_L_chance_0 : decode b_L_chance 0 = .ok (.aload_n 3, 1) := by decide +kernel
theorem d_L_chance_1 : decode b_L_chance 1 = .ok (.iconst 0, 1) := by decide +kernel
theorem d_L_chance_2 : decode b_L_chance 2 = .ok (.aload_n 0, 1) := by decide +kernel
theorem d_L_chance_3 : decode b_L_chance 3 = .ok (.iload_n 1, 1) := by decide +kernel
theorem d_L_chance_4 : decode b_L_chance 4 = .ok (.iload_n 2, 1) := by decide +kernel
theorem d_L_chance_5 : decode b_L_chance 5 = .ok (.invokevirtual 17, 3) := by decide +kernel
theorem d_L_chance_8 : decode b_L_chance 8 = .ok (.i2l, 1) := by decide +kernel
theorem d_L_chance_9 : decode b_L_chance 9 = .ok (.lastore, 1) := by decide +kernel
theorem d_L_chance_10 : decode b_L_chance 10 = .ok (.goto 7, 3) := by decide +kernel
theorem d_L_chance_13 : decode b_L_chance 13 = .ok (.astore 4, 2) := by decide +kernel
theorem d_L_chance_15 : decode b_L_chance 15 = .ok (.iconst 1, 1) := by decide +kernel
theorem d_L_chance_16 : decode b_L_chance 16 = .ok (.ireturn, 1) := by decide +kernel
theorem d_L_chance_17 : decode b_L_chance 17 = .ok (.iconst 0, 1) := by decide +kernel
theorem d_L_chance_18 : decode b_L_chance 18 = .ok (.ireturn, 1) := by decide +kernel
def rm_L_chance : Room := { frames := 8, cells := 8, slots := 48, locals := 154 }
def f_L_chance (fu : Nat) (v0 : Nat) (v1 : Int32) (v2 : Int32) (v3 : Nat) (w : List va_E) : Option (Int32 × List va_E) := ((hp_is w v0 6).bind fun _ => (hl_bd (f_F_chance fu v0 v1 v2 w) (fun E9 u9 => if E9 = "java/lang/IllegalArgumentException" then some ((1 : Int32), u9) else none) fun a2 u3 => ((hp_wl u3 v3 (0 : Int32) (a2).toInt64).bind fun w4 => (some ((0 : Int32), w4)))))
section
variable {p : Program} {l : Launch} {e : Env} {s : State} {m : MethodId} {args : Array Value} {below : List Frame} {meth : Method} {c : Code} {D : va_G} {ca : Nat → Nat} {A : Nat → Prop} {ad : Nat → Nat}
set_option maxRecDepth 100000 in
set_option maxHeartbeats 4000000 in
theorem v_L_chance (K : av_K p s m args meth c D cl8 ca A b_L_chance 5 R_L WS) (G : av_G NS tabON A s s.heap) (X : av_X A s s.heap) (N : av_N s) (hl : l.stackTraces = false) (ht : c.exceptionTable.toList = tableOf hh_L_chance) (hr : meth.sig.returnType = some .int) (fu : Nat) {r : Int32 × List va_E} (v0 : Nat) (v1 : Int32) (v2 : Int32) (v3 : Nat) (w : List va_E) (h : f_L_chance fu v0 v1 v2 v3 w = some r) : av_HVI p l e rm_L_chance s m args below meth c D cl8 A ad ca 5 r 0 0 0 [some (.ref v0), some (.int v1), some (.int v2), some (.ref v3), none] [] w := by
  unfold f_L_chance at h
  refine av_aload_n K d_L_chance_0 rfl rfl ?_
  refine av_iconst (v := (0 : Int32)) K d_L_chance_1 (by decide) ?_
  refine av_aload_n K d_L_chance_2 rfl rfl ?_
  refine av_iload_n K d_L_chance_3 rfl rfl ?_
  refine av_iload_n K d_L_chance_4 rfl rfl ?_
  obtain ⟨_, eo5, h⟩ := hp_bd h
  obtain ⟨fs5, ho5⟩ := hp_is_of eo5
  obtain ⟨r1, er1, lr1, h⟩ := hl_of h
  refine av_hVi K G X (c_F_chance hl er1) (cwV 2 K.2.2.2.2.1 (gV ml_L_17 im_F_chance se_F_chance in_F co_F_chance) rfl rfl rfl cd_F_chance ⟨(Nat.le_of_ble_eq_true rfl), (Nat.le_of_ble_eq_true rfl)⟩) rfl ho5 rfl rfl (Nat.le_of_ble_eq_true rfl) d_L_chance_5 ⟨(Nat.le_of_ble_eq_true rfl), (Nat.le_of_ble_eq_true rfl)⟩ (fun E9 u9 h9 => ?_) (fun a2 u3 h9 => ?_)
  · have hq := lr1 E9 u9 h9.symm
    by_cases e0 : E9 = "java/lang/IllegalArgumentException"
    · rw [if_pos e0] at hq
      subst e0
      obtain rfl := Option.some.inj hq
      exact av_hand K X N ht hr (by decide) [] ⟨0, 10, 13, 13⟩ [] rfl (fun _ h => nomatch h) (by decide) (by decide) lk_13 (Or.inr (Or.inr ⟨d_L_chance_13, rfl, rfl⟩)) (Nat.le_of_ble_eq_true rfl) d_L_chance_15 (by decide) d_L_chance_16 rfl
    · rw [if_neg e0] at hq
      cases hq
  · have h := h a2 u3 h9.symm
    refine av_i2l K d_L_chance_8 ?_
    obtain ⟨w4, ew4, h⟩ := hp_bd h
    refine hv_wl K d_L_chance_9 ew4 ?_
    refine av_goto (tgt := 17) K d_L_chance_10 rfl ?_
    refine av_iconst (v := (0 : Int32)) K d_L_chance_17 (by decide) ?_
    obtain rfl := Option.some.inj h
    exact av_ireturn K hr d_L_chance_18 rfl
end
set_option maxRecDepth 100000 in
theorem c_L_chance {l : Launch} {D : va_G} {ca : Nat → Nat} (hl : l.stackTraces = false) {fu : Nat} {v0 : Nat} {v1 : Int32} {v2 : Int32} {v3 : Nat} {w : List va_E} {r : Int32 × List va_E} (h : f_L_chance fu v0 v1 v2 v3 w = some r) : av_Hi l D cl8 ca NS tabON y_L_chance w_L_chance rm_L_chance 8 48 [.ref v0, .int v1, .int v2, .ref v3] w (fun v u => (v, u) = r) :=
  av_inH (cc := b_L_chance) (nL := 5) (hh := hh_L_chance) (by decide +kernel) rfl (Nat.le_of_ble_eq_true rfl) (fun p e s m args below meth c A ad K G X N ht hr => v_L_chance K G X N hl ht hr fu v0 v1 v2 v3 w h)

-- FaultTreeDeskLaw.hold(LFaultTreeDesk;II[J)I
abbrev b_L_hold : ByteArray := method_5_code
def y_L_hold : MethodName := ⟨"FaultTreeDeskLaw", "hold", "(LFaultTreeDesk;II[J)I"⟩
def hh_L_hold : List (Nat × Nat × Nat × Nat) := [(0, 10, 13, 13)]
def w_L_hold : List Cond := Cond.codeWith y_L_hold b_L_hold 5 (some .int) hh_L_hold :: WS
set_option maxRecDepth 100000 in
theorem co_L_hold : Cond.codeWith y_L_hold b_L_hold 5 (some .int) hh_L_hold ∈ WS := ws_t (List.mem_of_getElem? (i := 311) rfl) rfl
theorem sm_L_hold : Cond.static y_L_hold ∈ WS := ws_t (List.mem_of_getElem? (i := 310) (by decide +kernel)) (by decide +kernel)
theorem ce_L_hold : y_L_hold.cls ≠ "java/lang/invoke/MethodHandle" ∧ y_L_hold.cls ≠ "java/lang/invoke/VarHandle" ∧ (parseMethodDescriptor y_L_hold.desc).map (fun d => d.parameters.length) = some 4 := by decide +kernel
theorem d_L_hold_0 : decode b_L_hold 0 = .ok (.aload_n 3, 1) := by decide +kernel
theorem d_L_hold_1 : decode b_L_hold 1 = .ok (.iconst 0, 1) := by decide +kernel
theorem d_L_hold_2 : decode b_L_hold 2 = .ok (.aload_n 0, 1) := by decide +kernel
theorem d_L_hold_3 : decode b_L_hold 3 = .ok (.iload_n 1, 1) := by decide +kernel
theorem d_L_hold_4 : decode b_L_hold 4 = .ok (.iload_n 2, 1) := by decide +kernel
theorem d_L_hold_5 : decode b_L_hold 5 = .ok (.invokevirtual 21, 3) := by decide +kernel
theorem d_L_hold_8 : decode b_L_hold 8 = .ok (.i2l, 1) := by decide +kernel
theorem d_L_hold_9 : decode b_L_hold 9 = .ok (.lastore, 1) := by decide +kernel
theorem d_L_hold_10 : decode b_L_hold 10 = .ok (.goto 7, 3) := by decide +kernel
theorem d_L_hold_13 : decode b_L_hold 13 = .ok (.astore 4, 2) := by decide +kernel
theorem d_L_hold_15 : decode b_L_hold 15 = .ok (.iconst 1, 1) := by decide +kernel
theorem d_L_hold_16 : decode b_L_hold 16 = .ok (.ireturn, 1) := by decide +kernel
theorem d_L_hold_17 : decode b_L_hold 17 = .ok (.iconst 0, 1) := by decide +kernel
theorem d_L_hold_18 : decode b_L_hold 18 = .ok (.ireturn, 1) := by decide +kernel
def rm_L_hold : Room := { frames := 8, cells := 8, slots := 48, locals := 154 }
def f_L_hold (fu : Nat) (v0 : Nat) (v1 : Int32) (v2 : Int32) (v3 : Nat) (w : List va_E) : Option (Int32 × List va_E) := ((hp_is w v0 6).bind fun _ => (hl_bd (f_F_hold fu v0 v1 v2 w) (fun E9 u9 => if E9 = "java/lang/IllegalArgumentException" then some ((1 : Int32), u9) else none) fun a2 u3 => ((hp_wl u3 v3 (0 : Int32) (a2).toInt64).bind fun w4 => (some ((0 : Int32), w4)))))
section
variable {p : Program} {l : Launch} {e : Env} {s : State} {m : MethodId} {args : Array Value} {below : List Frame} {meth : Method} {c : Code} {D : va_G} {ca : Nat → Nat} {A : Nat → Prop} {ad : Nat → Nat}
set_option maxRecDepth 100000 in
set_option maxHeartbeats 4000000 in
theorem v_L_hold (K : av_K p s m args meth c D cl8 ca A b_L_hold 5 R_L WS) (G : av_G NS tabON A s s.heap) (X : av_X A s s.heap) (N : av_N s) (hl : l.stackTraces = false) (ht : c.exceptionTable.toList = tableOf hh_L_hold) (hr : meth.sig.returnType = some .int) (fu : Nat) {r : Int32 × List va_E} (v0 : Nat) (v1 : Int32) (v2 : Int32) (v3 : Nat) (w : List va_E) (h : f_L_hold fu v0 v1 v2 v3 w = some r) : av_HVI p l e rm_L_hold s m args below meth c D cl8 A ad ca 5 r 0 0 0 [some (.ref v0), some (.int v1), some (.int v2), some (.ref v3), none] [] w := by
  unfold f_L_hold at h
  refine av_aload_n K d_L_hold_0 rfl rfl ?_
  refine av_iconst (v := (0 : Int32)) K d_L_hold_1 (by decide) ?_
  refine av_aload_n K d_L_hold_2 rfl rfl ?_
  refine av_iload_n K d_L_hold_3 rfl rfl ?_
  refine av_iload_n K d_L_hold_4 rfl rfl ?_
  obtain ⟨_, eo5, h⟩ := hp_bd h
  obtain ⟨fs5, ho5⟩ := hp_is_of eo5
  obtain ⟨r1, er1, lr1, h⟩ := hl_of h
  refine av_hVi K G X (c_F_hold hl er1) (cwV 2 K.2.2.2.2.1 (gV ml_L_21 im_F_hold se_F_hold in_F co_F_hold) rfl rfl rfl cd_F_hold ⟨(Nat.le_of_ble_eq_true rfl), (Nat.le_of_ble_eq_true rfl)⟩) rfl ho5 rfl rfl (Nat.le_of_ble_eq_true rfl) d_L_hold_5 ⟨(Nat.le_of_ble_eq_true rfl), (Nat.le_of_ble_eq_true rfl)⟩ (fun E9 u9 h9 => ?_) (fun a2 u3 h9 => ?_)
  · have hq := lr1 E9 u9 h9.symm
    by_cases e0 : E9 = "java/lang/IllegalArgumentException"
    · rw [if_pos e0] at hq
      subst e0
      obtain rfl := Option.some.inj hq
      exact av_hand K X N ht hr (by decide) [] ⟨0, 10, 13, 13⟩ [] rfl (fun _ h => nomatch h) (by decide) (by decide) lk_13 (Or.inr (Or.inr ⟨d_L_hold_13, rfl, rfl⟩)) (Nat.le_of_ble_eq_true rfl) d_L_hold_15 (by decide) d_L_hold_16 rfl
    · rw [if_neg e0] at hq
      cases hq
  · have h := h a2 u3 h9.symm
    refine av_i2l K d_L_hold_8 ?_
    obtain ⟨w4, ew4, h⟩ := hp_bd h
    refine hv_wl K d_L_hold_9 ew4 ?_
    refine av_goto (tgt := 17) K d_L_hold_10 rfl ?_
    refine av_iconst (v := (0 : Int32)) K d_L_hold_17 (by decide) ?_
    obtain rfl := Option.some.inj h
    exact av_ireturn K hr d_L_hold_18 rfl
end
set_option maxRecDepth 100000 in
theorem c_L_hold {l : Launch} {D : va_G} {ca : Nat → Nat} (hl : l.stackTraces = false) {fu : Nat} {v0 : Nat} {v1 : Int32} {v2 : Int32} {v3 : Nat} {w : List va_E} {r : Int32 × List va_E} (h : f_L_hold fu v0 v1 v2 v3 w = some r) : av_Hi l D cl8 ca NS tabON y_L_hold w_L_hold rm_L_hold 8 48 [.ref v0, .int v1, .int v2, .ref v3] w (fun v u => (v, u) = r) :=
  av_inH (cc := b_L_hold) (nL := 5) (hh := hh_L_hold) (by decide +kernel) rfl (Nat.le_of_ble_eq_true rfl) (fun p e s m args below meth c A ad K G X N ht hr => v_L_hold K G X N hl ht hr fu v0 v1 v2 v3 w h)

-- FaultTreeDeskLaw.gate(LFaultTreeDesk;II[J)I
abbrev b_L_gate : ByteArray := method_6_code
def y_L_gate : MethodName := ⟨"FaultTreeDeskLaw", "gate", "(LFaultTreeDesk;II[J)I"⟩
def hh_L_gate : List (Nat × Nat × Nat × Nat) := [(0, 10, 13, 13), (0, 10, 17, 15)]
def w_L_gate : List Cond := Cond.codeWith y_L_gate b_L_gate 5 (some .int) hh_L_gate :: WS
set_option maxRecDepth 100000 in
theorem co_L_gate : Cond.codeWith y_L_gate b_L_gate 5 (some .int) hh_L_gate ∈ WS := ws_t (List.mem_of_getElem? (i := 319) rfl) rfl
theorem sm_L_gate : Cond.static y_L_gate ∈ WS := ws_t (List.mem_of_getElem? (i := 318) (by decide +kernel)) (by decide +kernel)
theorem ce_L_gate : y_L_gate.cls ≠ "java/lang/invoke/MethodHandle" ∧ y_L_gate.cls ≠ "java/lang/invoke/VarHandle" ∧ (parseMethodDescriptor y_L_gate.desc).map (fun d => d.parameters.length) = some 4 := by decide +kernel
theorem d_L_gate_0 : decode b_L_gate 0 = .ok (.aload_n 3, 1) := by decide +kernel
theorem d_L_gate_1 : decode b_L_gate 1 = .ok (.iconst 0, 1) := by decide +kernel
theorem d_L_gate_2 : decode b_L_gate 2 = .ok (.aload_n 0, 1) := by decide +kernel
theorem d_L_gate_3 : decode b_L_gate 3 = .ok (.iload_n 1, 1) := by decide +kernel
theorem d_L_gate_4 : decode b_L_gate 4 = .ok (.iload_n 2, 1) := by decide +kernel
theorem d_L_gate_5 : decode b_L_gate 5 = .ok (.invokevirtual 24, 3) := by decide +kernel
theorem d_L_gate_8 : decode b_L_gate 8 = .ok (.i2l, 1) := by decide +kernel
theorem d_L_gate_9 : decode b_L_gate 9 = .ok (.lastore, 1) := by decide +kernel
theorem d_L_gate_10 : decode b_L_gate 10 = .ok (.goto 11, 3) := by decide +kernel
theorem d_L_gate_13 : decode b_L_gate 13 = .ok (.astore 4, 2) := by decide +kernel
theorem d_L_gate_15 : decode b_L_gate 15 = .ok (.iconst 1, 1) := by decide +kernel
theorem d_L_gate_16 : decode b_L_gate 16 = .ok (.ireturn, 1) := by decide +kernel
theorem d_L_gate_17 : decode b_L_gate 17 = .ok (.astore 4, 2) := by decide +kernel
theorem d_L_gate_19 : decode b_L_gate 19 = .ok (.iconst 2, 1) := by decide +kernel
theorem d_L_gate_20 : decode b_L_gate 20 = .ok (.ireturn, 1) := by decide +kernel
theorem d_L_gate_21 : decode b_L_gate 21 = .ok (.iconst 0, 1) := by decide +kernel
theorem d_L_gate_22 : decode b_L_gate 22 = .ok (.ireturn, 1) := by decide +kernel
def rm_L_gate : Room := { frames := 7, cells := 8, slots := 48, locals := 132 }
def f_L_gate (fu : Nat) (v0 : Nat) (v1 : Int32) (v2 : Int32) (v3 : Nat) (w : List va_E) : Option (Int32 × List va_E) := ((hp_is w v0 6).bind fun _ => (hl_bd (f_F_gate fu v0 v1 v2 w) (fun E9 u9 => if E9 = "java/lang/IllegalArgumentException" then some ((1 : Int32), u9) else if E9 = "java/lang/IllegalStateException" then some ((2 : Int32), u9) else none) fun a2 u3 => ((hp_wl u3 v3 (0 : Int32) (a2).toInt64).bind fun w4 => (some ((0 : Int32), w4)))))
section
variable {p : Program} {l : Launch} {e : Env} {s : State} {m : MethodId} {args : Array Value} {below : List Frame} {meth : Method} {c : Code} {D : va_G} {ca : Nat → Nat} {A : Nat → Prop} {ad : Nat → Nat}
set_option maxRecDepth 100000 in
set_option maxHeartbeats 4000000 in
theorem v_L_gate (K : av_K p s m args meth c D cl8 ca A b_L_gate 5 R_L WS) (G : av_G NS tabON A s s.heap) (X : av_X A s s.heap) (N : av_N s) (hl : l.stackTraces = false) (ht : c.exceptionTable.toList = tableOf hh_L_gate) (hr : meth.sig.returnType = some .int) (fu : Nat) {r : Int32 × List va_E} (v0 : Nat) (v1 : Int32) (v2 : Int32) (v3 : Nat) (w : List va_E) (h : f_L_gate fu v0 v1 v2 v3 w = some r) : av_HVI p l e rm_L_gate s m args below meth c D cl8 A ad ca 5 r 0 0 0 [some (.ref v0), some (.int v1), some (.int v2), some (.ref v3), none] [] w := by
  unfold f_L_gate at h
  refine av_aload_n K d_L_gate_0 rfl rfl ?_
  refine av_iconst (v := (0 : Int32)) K d_L_gate_1 (by decide) ?_
  refine av_aload_n K d_L_gate_2 rfl rfl ?_
  refine av_iload_n K d_L_gate_3 rfl rfl ?_
  refine av_iload_n K d_L_gate_4 rfl rfl ?_
  obtain ⟨_, eo5, h⟩ := hp_bd h
  obtain ⟨fs5, ho5⟩ := hp_is_of eo5
  obtain ⟨r1, er1, lr1, h⟩ := hl_of h
  refine av_hVi K G X (c_F_gate hl er1) (cwV 2 K.2.2.2.2.1 (gV ml_L_24 im_F_gate se_F_gate in_F co_F_gate) rfl rfl rfl cd_F_gate ⟨(Nat.le_of_ble_eq_true rfl), (Nat.le_of_ble_eq_true rfl)⟩) rfl ho5 rfl rfl (Nat.le_of_ble_eq_true rfl) d_L_gate_5 ⟨(Nat.le_of_ble_eq_true rfl), (Nat.le_of_ble_eq_true rfl)⟩ (fun E9 u9 h9 => ?_) (fun a2 u3 h9 => ?_)
  · have hq := lr1 E9 u9 h9.symm
    by_cases e0 : E9 = "java/lang/IllegalArgumentException"
    · rw [if_pos e0] at hq
      subst e0
      obtain rfl := Option.some.inj hq
      exact av_hand K X N ht hr (by decide) [] ⟨0, 10, 13, 13⟩ [⟨0, 10, 17, 15⟩] rfl (fun _ h => nomatch h) (by decide) (by decide) lk_13 (Or.inr (Or.inr ⟨d_L_gate_13, rfl, rfl⟩)) (Nat.le_of_ble_eq_true rfl) d_L_gate_15 (by decide) d_L_gate_16 rfl
    · rw [if_neg e0] at hq
      by_cases e1 : E9 = "java/lang/IllegalStateException"
      · rw [if_pos e1] at hq
        subst e1
        obtain rfl := Option.some.inj hq
        exact av_hand K X N ht hr (by decide) [⟨0, 10, 13, 13⟩] ⟨0, 10, 17, 15⟩ [] rfl (List.forall_mem_cons.mpr ⟨⟨by decide, _, lk_13, by decide⟩, (fun _ h => nomatch h)⟩) (by decide) (by decide) lk_15 (Or.inr (Or.inr ⟨d_L_gate_17, rfl, rfl⟩)) (Nat.le_of_ble_eq_true rfl) d_L_gate_19 (by decide) d_L_gate_20 rfl
      · rw [if_neg e1] at hq
        cases hq
  · have h := h a2 u3 h9.symm
    refine av_i2l K d_L_gate_8 ?_
    obtain ⟨w4, ew4, h⟩ := hp_bd h
    refine hv_wl K d_L_gate_9 ew4 ?_
    refine av_goto (tgt := 21) K d_L_gate_10 rfl ?_
    refine av_iconst (v := (0 : Int32)) K d_L_gate_21 (by decide) ?_
    obtain rfl := Option.some.inj h
    exact av_ireturn K hr d_L_gate_22 rfl
end
set_option maxRecDepth 100000 in
theorem c_L_gate {l : Launch} {D : va_G} {ca : Nat → Nat} (hl : l.stackTraces = false) {fu : Nat} {v0 : Nat} {v1 : Int32} {v2 : Int32} {v3 : Nat} {w : List va_E} {r : Int32 × List va_E} (h : f_L_gate fu v0 v1 v2 v3 w = some r) : av_Hi l D cl8 ca NS tabON y_L_gate w_L_gate rm_L_gate 8 48 [.ref v0, .int v1, .int v2, .ref v3] w (fun v u => (v, u) = r) :=
  av_inH (cc := b_L_gate) (nL := 5) (hh := hh_L_gate) (by decide +kernel) rfl (Nat.le_of_ble_eq_true rfl) (fun p e s m args below meth c A ad K G X N ht hr => v_L_gate K G X N hl ht hr fu v0 v1 v2 v3 w h)

-- FaultTreeDeskLaw.input(LFaultTreeDesk;II[J)I
abbrev b_L_input : ByteArray := method_7_code
def y_L_input : MethodName := ⟨"FaultTreeDeskLaw", "input", "(LFaultTreeDesk;II[J)I"⟩
def hh_L_input : List (Nat × Nat × Nat × Nat) := [(0, 10, 13, 13), (0, 10, 17, 15), (0, 10, 21, 30)]
def w_L_input : List Cond := Cond.codeWith y_L_input b_L_input 5 (some .int) hh_L_input :: WS
set_option maxRecDepth 100000 in
theorem co_L_input : Cond.codeWith y_L_input b_L_input 5 (some .int) hh_L_input ∈ WS := ws_t (List.mem_of_getElem? (i := 333) rfl) rfl
theorem sm_L_input : Cond.static y_L_input ∈ WS := ws_t (List.mem_of_getElem? (i := 332) (by decide +kernel)) (by decide +kernel)
theorem ce_L_input : y_L_input.cls ≠ "java/lang/invoke/MethodHandle" ∧ y_L_input.cls ≠ "java/lang/invoke/VarHandle" ∧ (parseMethodDescriptor y_L_input.desc).map (fun d => d.parameters.length) = some 4 := by decide +kernel
theorem d_L_input_0 : decode b_L_input 0 = .ok (.aload_n 3, 1) := by decide +kernel
theorem d_L_input_1 : decode b_L_input 1 = .ok (.iconst 0, 1) := by decide +kernel
theorem d_L_input_2 : decode b_L_input 2 = .ok (.aload_n 0, 1) := by decide +kernel
theorem d_L_input_3 : decode b_L_input 3 = .ok (.iload_n 1, 1) := by decide +kernel
theorem d_L_input_4 : decode b_L_input 4 = .ok (.iload_n 2, 1) := by decide +kernel
theorem d_L_input_5 : decode b_L_input 5 = .ok (.invokevirtual 27, 3) := by decide +kernel
theorem d_L_input_8 : decode b_L_input 8 = .ok (.i2l, 1) := by decide +kernel
theorem d_L_input_9 : decode b_L_input 9 = .ok (.lastore, 1) := by decide +kernel
theorem d_L_input_10 : decode b_L_input 10 = .ok (.goto 15, 3) := by decide +kernel
theorem d_L_input_13 : decode b_L_input 13 = .ok (.astore 4, 2) := by decide +kernel
theorem d_L_input_15 : decode b_L_input 15 = .ok (.iconst 1, 1) := by decide +kernel
theorem d_L_input_16 : decode b_L_input 16 = .ok (.ireturn, 1) := by decide +kernel
theorem d_L_input_17 : decode b_L_input 17 = .ok (.astore 4, 2) := by decide +kernel
theorem d_L_input_19 : decode b_L_input 19 = .ok (.iconst 2, 1) := by decide +kernel
theorem d_L_input_20 : decode b_L_input 20 = .ok (.ireturn, 1) := by decide +kernel
theorem d_L_input_21 : decode b_L_input 21 = .ok (.astore 4, 2) := by decide +kernel
theorem d_L_input_23 : decode b_L_input 23 = .ok (.iconst 3, 1) := by decide +kernel
theorem d_L_input_24 : decode b_L_input 24 = .ok (.ireturn, 1) := by decide +kernel
theorem d_L_input_25 : decode b_L_input 25 = .ok (.iconst 0, 1) := by decide +kernel
theorem d_L_input_26 : decode b_L_input 26 = .ok (.ireturn, 1) := by decide +kernel
def rm_L_input : Room := { frames := 8, cells := 8, slots := 48, locals := 153 }
def f_L_input (fu : Nat) (v0 : Nat) (v1 : Int32) (v2 : Int32) (v3 : Nat) (w : List va_E) : Option (Int32 × List va_E) := ((hp_is w v0 6).bind fun _ => (hl_bd (f_F_input fu v0 v1 v2 w) (fun E9 u9 => if E9 = "java/lang/IllegalArgumentException" then some ((1 : Int32), u9) else if E9 = "java/lang/IllegalStateException" then some ((2 : Int32), u9) else if E9 = "java/lang/UnsupportedOperationException" then some ((3 : Int32), u9) else none) fun a2 u3 => ((hp_wl u3 v3 (0 : Int32) (a2).toInt64).bind fun w4 => (some ((0 : Int32), w4)))))
section
variable {p : Program} {l : Launch} {e : Env} {s : State} {m : MethodId} {args : Array Value} {below : List Frame} {meth : Method} {c : Code} {D : va_G} {ca : Nat → Nat} {A : Nat → Prop} {ad : Nat → Nat}
set_option maxRecDepth 100000 in
set_option maxHeartbeats 4000000 in
theorem v_L_input (K : av_K p s m args meth c D cl8 ca A b_L_input 5 R_L WS) (G : av_G NS tabON A s s.heap) (X : av_X A s s.heap) (N : av_N s) (hl : l.stackTraces = false) (ht : c.exceptionTable.toList = tableOf hh_L_input) (hr : meth.sig.returnType = some .int) (fu : Nat) {r : Int32 × List va_E} (v0 : Nat) (v1 : Int32) (v2 : Int32) (v3 : Nat) (w : List va_E) (h : f_L_input fu v0 v1 v2 v3 w = some r) : av_HVI p l e rm_L_input s m args below meth c D cl8 A ad ca 5 r 0 0 0 [some (.ref v0), some (.int v1), some (.int v2), some (.ref v3), none] [] w := by
  unfold f_L_input at h
  refine av_aload_n K d_L_input_0 rfl rfl ?_
  refine av_iconst (v := (0 : Int32)) K d_L_input_1 (by decide) ?_
  refine av_aload_n K d_L_input_2 rfl rfl ?_
  refine av_iload_n K d_L_input_3 rfl rfl ?_
  refine av_iload_n K d_L_input_4 rfl rfl ?_
  obtain ⟨_, eo5, h⟩ := hp_bd h
  obtain ⟨fs5, ho5⟩ := hp_is_of eo5
  obtain ⟨r1, er1, lr1, h⟩ := hl_of h
  refine av_hVi K G X (c_F_input hl er1) (cwV 2 K.2.2.2.2.1 (gV ml_L_27 im_F_input se_F_input in_F co_F_input) rfl rfl rfl cd_F_input ⟨(Nat.le_of_ble_eq_true rfl), (Nat.le_of_ble_eq_true rfl)⟩) rfl ho5 rfl rfl (Nat.le_of_ble_eq_true rfl) d_L_input_5 ⟨(Nat.le_of_ble_eq_true rfl), (Nat.le_of_ble_eq_true rfl)⟩ (fun E9 u9 h9 => ?_) (fun a2 u3 h9 => ?_)
  · have hq := lr1 E9 u9 h9.symm
    by_cases e0 : E9 = "java/lang/IllegalArgumentException"
    · rw [if_pos e0] at hq
      subst e0
      obtain rfl := Option.some.inj hq
      exact av_hand K X N ht hr (by decide) [] ⟨0, 10, 13, 13⟩ [⟨0, 10, 17, 15⟩, ⟨0, 10, 21, 30⟩] rfl (fun _ h => nomatch h) (by decide) (by decide) lk_13 (Or.inr (Or.inr ⟨d_L_input_13, rfl, rfl⟩)) (Nat.le_of_ble_eq_true rfl) d_L_input_15 (by decide) d_L_input_16 rfl
    · rw [if_neg e0] at hq
      by_cases e1 : E9 = "java/lang/IllegalStateException"
      · rw [if_pos e1] at hq
        subst e1
        obtain rfl := Option.some.inj hq
        exact av_hand K X N ht hr (by decide) [⟨0, 10, 13, 13⟩] ⟨0, 10, 17, 15⟩ [⟨0, 10, 21, 30⟩] rfl (List.forall_mem_cons.mpr ⟨⟨by decide, _, lk_13, by decide⟩, (fun _ h => nomatch h)⟩) (by decide) (by decide) lk_15 (Or.inr (Or.inr ⟨d_L_input_17, rfl, rfl⟩)) (Nat.le_of_ble_eq_true rfl) d_L_input_19 (by decide) d_L_input_20 rfl
      · rw [if_neg e1] at hq
        by_cases e2 : E9 = "java/lang/UnsupportedOperationException"
        · rw [if_pos e2] at hq
          subst e2
          obtain rfl := Option.some.inj hq
          exact av_hand K X N ht hr (by decide) [⟨0, 10, 13, 13⟩, ⟨0, 10, 17, 15⟩] ⟨0, 10, 21, 30⟩ [] rfl (List.forall_mem_cons.mpr ⟨⟨by decide, _, lk_13, by decide⟩, (List.forall_mem_cons.mpr ⟨⟨by decide, _, lk_15, by decide⟩, (fun _ h => nomatch h)⟩)⟩) (by decide) (by decide) lk_30 (Or.inr (Or.inr ⟨d_L_input_21, rfl, rfl⟩)) (Nat.le_of_ble_eq_true rfl) d_L_input_23 (by decide) d_L_input_24 rfl
        · rw [if_neg e2] at hq
          cases hq
  · have h := h a2 u3 h9.symm
    refine av_i2l K d_L_input_8 ?_
    obtain ⟨w4, ew4, h⟩ := hp_bd h
    refine hv_wl K d_L_input_9 ew4 ?_
    refine av_goto (tgt := 25) K d_L_input_10 rfl ?_
    refine av_iconst (v := (0 : Int32)) K d_L_input_25 (by decide) ?_
    obtain rfl := Option.some.inj h
    exact av_ireturn K hr d_L_input_26 rfl
end
set_option maxRecDepth 100000 in
theorem c_L_input {l : Launch} {D : va_G} {ca : Nat → Nat} (hl : l.stackTraces = false) {fu : Nat} {v0 : Nat} {v1 : Int32} {v2 : Int32} {v3 : Nat} {w : List va_E} {r : Int32 × List va_E} (h : f_L_input fu v0 v1 v2 v3 w = some r) : av_Hi l D cl8 ca NS tabON y_L_input w_L_input rm_L_input 8 48 [.ref v0, .int v1, .int v2, .ref v3] w (fun v u => (v, u) = r) :=
  av_inH (cc := b_L_input) (nL := 5) (hh := hh_L_input) (by decide +kernel) rfl (Nat.le_of_ble_eq_true rfl) (fun p e s m args below meth c A ad K G X N ht hr => v_L_input K G X N hl ht hr fu v0 v1 v2 v3 w h)

-- FaultTreeDeskLaw.top(LFaultTreeDesk;I)I
abbrev b_L_top : ByteArray := method_8_code
def y_L_top : MethodName := ⟨"FaultTreeDeskLaw", "top", "(LFaultTreeDesk;I)I"⟩
def hh_L_top : List (Nat × Nat × Nat × Nat) := [(0, 5, 8, 13)]
def w_L_top : List Cond := Cond.codeWith y_L_top b_L_top 3 (some .int) hh_L_top :: WS
set_option maxRecDepth 100000 in
theorem co_L_top : Cond.codeWith y_L_top b_L_top 3 (some .int) hh_L_top ∈ WS := ws_t (List.mem_of_getElem? (i := 398) rfl) rfl
theorem sm_L_top : Cond.static y_L_top ∈ WS := ws_t (List.mem_of_getElem? (i := 397) (by decide +kernel)) (by decide +kernel)
theorem ce_L_top : y_L_top.cls ≠ "java/lang/invoke/MethodHandle" ∧ y_L_top.cls ≠ "java/lang/invoke/VarHandle" ∧ (parseMethodDescriptor y_L_top.desc).map (fun d => d.parameters.length) = some 2 := by decide +kernel
theorem d_L_top_0 : decode b_L_top 0 = .ok (.aload_n 0, 1) := by decide +kernel
theorem d_L_top_1 : decode b_L_top 1 = .ok (.iload_n 1, 1) := by decide +kernel
theorem d_L_top_2 : decode b_L_top 2 = .ok (.invokevirtual 32, 3) := by decide +kernel
theorem d_L_top_5 : decode b_L_top 5 = .ok (.goto 6, 3) := by decide +kernel
theorem d_L_top_8 : decode b_L_top 8 = .ok (.astore_n 2, 1) := by decide +kernel
theorem d_L_top_9 : decode b_L_top 9 = .ok (.iconst 1, 1) := by decide +kernel
theorem d_L_top_10 : decode b_L_top 10 = .ok (.ireturn, 1) := by decide +kernel
theorem d_L_top_11 : decode b_L_top 11 = .ok (.iconst 0, 1) := by decide +kernel
theorem d_L_top_12 : decode b_L_top 12 = .ok (.ireturn, 1) := by decide +kernel
def rm_L_top : Room := { frames := 8, cells := 8, slots := 48, locals := 152 }
def f_L_top (fu : Nat) (v0 : Nat) (v1 : Int32) (w : List va_E) : Option (Int32 × List va_E) := ((hp_is w v0 6).bind fun _ => (hl_bd (f_F_top fu v0 v1 w) (fun E9 u9 => if E9 = "java/lang/IllegalArgumentException" then some ((1 : Int32), u9) else none) fun _ u3 => (some ((0 : Int32), u3))))
section
variable {p : Program} {l : Launch} {e : Env} {s : State} {m : MethodId} {args : Array Value} {below : List Frame} {meth : Method} {c : Code} {D : va_G} {ca : Nat → Nat} {A : Nat → Prop} {ad : Nat → Nat}
set_option maxRecDepth 100000 in
set_option maxHeartbeats 4000000 in
theorem v_L_top (K : av_K p s m args meth c D cl8 ca A b_L_top 3 R_L WS) (G : av_G NS tabON A s s.heap) (X : av_X A s s.heap) (N : av_N s) (hl : l.stackTraces = false) (ht : c.exceptionTable.toList = tableOf hh_L_top) (hr : meth.sig.returnType = some .int) (fu : Nat) {r : Int32 × List va_E} (v0 : Nat) (v1 : Int32) (w : List va_E) (h : f_L_top fu v0 v1 w = some r) : av_HVI p l e rm_L_top s m args below meth c D cl8 A ad ca 3 r 0 0 0 [some (.ref v0), some (.int v1), none] [] w := by
  unfold f_L_top at h
  refine av_aload_n K d_L_top_0 rfl rfl ?_
  refine av_iload_n K d_L_top_1 rfl rfl ?_
  obtain ⟨_, eo2, h⟩ := hp_bd h
  obtain ⟨fs2, ho2⟩ := hp_is_of eo2
  obtain ⟨r1, er1, lr1, h⟩ := hl_of h
  refine av_hVv K G X (c_F_top hl er1) (cwV 1 K.2.2.2.2.1 (gV ml_L_32 im_F_top se_F_top in_F co_F_top) rfl rfl rfl cd_F_top ⟨(Nat.le_of_ble_eq_true rfl), (Nat.le_of_ble_eq_true rfl)⟩) rfl ho2 rfl rfl (Nat.le_of_ble_eq_true rfl) d_L_top_2 ⟨(Nat.le_of_ble_eq_true rfl), (Nat.le_of_ble_eq_true rfl)⟩ (fun E9 u9 h9 => ?_) (fun u3 h9 => ?_)
  · have hq := lr1 E9 u9 h9.symm
    by_cases e0 : E9 = "java/lang/IllegalArgumentException"
    · rw [if_pos e0] at hq
      subst e0
      obtain rfl := Option.some.inj hq
      exact av_hand K X N ht hr (by decide) [] ⟨0, 5, 8, 13⟩ [] rfl (fun _ h => nomatch h) (by decide) (by decide) lk_13 (Or.inr (Or.inl ⟨d_L_top_8, rfl, rfl⟩)) (Nat.le_of_ble_eq_true rfl) d_L_top_9 (by decide) d_L_top_10 rfl
    · rw [if_neg e0] at hq
      cases hq
  · have h := h () u3 h9.symm
    refine av_goto (tgt := 11) K d_L_top_5 rfl ?_
    refine av_iconst (v := (0 : Int32)) K d_L_top_11 (by decide) ?_
    obtain rfl := Option.some.inj h
    exact av_ireturn K hr d_L_top_12 rfl
end
set_option maxRecDepth 100000 in
theorem c_L_top {l : Launch} {D : va_G} {ca : Nat → Nat} (hl : l.stackTraces = false) {fu : Nat} {v0 : Nat} {v1 : Int32} {w : List va_E} {r : Int32 × List va_E} (h : f_L_top fu v0 v1 w = some r) : av_Hi l D cl8 ca NS tabON y_L_top w_L_top rm_L_top 8 48 [.ref v0, .int v1] w (fun v u => (v, u) = r) :=
  av_inH (cc := b_L_top) (nL := 3) (hh := hh_L_top) (by decide +kernel) rfl (Nat.le_of_ble_eq_true rfl) (fun p e s m args below meth c A ad K G X N ht hr => v_L_top K G X N hl ht hr fu v0 v1 w h)

-- FaultTreeDeskLaw.value(LFaultTreeDesk;I[J)I
abbrev b_L_value : ByteArray := method_9_code
def y_L_value : MethodName := ⟨"FaultTreeDeskLaw", "value", "(LFaultTreeDesk;I[J)I"⟩
def hh_L_value : List (Nat × Nat × Nat × Nat) := [(0, 16, 19, 15)]
def w_L_value : List Cond := Cond.codeWith y_L_value b_L_value 4 (some .int) hh_L_value :: WS
set_option maxRecDepth 100000 in
theorem co_L_value : Cond.codeWith y_L_value b_L_value 4 (some .int) hh_L_value ∈ WS := ws_t (List.mem_of_getElem? (i := 405) rfl) rfl
theorem sm_L_value : Cond.static y_L_value ∈ WS := ws_t (List.mem_of_getElem? (i := 404) (by decide +kernel)) (by decide +kernel)
theorem ce_L_value : y_L_value.cls ≠ "java/lang/invoke/MethodHandle" ∧ y_L_value.cls ≠ "java/lang/invoke/VarHandle" ∧ (parseMethodDescriptor y_L_value.desc).map (fun d => d.parameters.length) = some 3 := by decide +kernel
theorem d_L_value_0 : decode b_L_value 0 = .ok (.aload_n 2, 1) := by decide +kernel
theorem d_L_value_1 : decode b_L_value 1 = .ok (.iconst 0, 1) := by decide +kernel
theorem d_L_value_2 : decode b_L_value 2 = .ok (.aload_n 0, 1) := by decide +kernel
theorem d_L_value_3 : decode b_L_value 3 = .ok (.iload_n 1, 1) := by decide +kernel
theorem d_L_value_4 : decode b_L_value 4 = .ok (.invokevirtual 36, 3) := by decide +kernel
theorem d_L_value_7 : decode b_L_value 7 = .ok (.ifCond .eq 7, 3) := by decide +kernel
theorem d_L_value_10 : decode b_L_value 10 = .ok (.lconst 1, 1) := by decide +kernel
theorem d_L_value_11 : decode b_L_value 11 = .ok (.goto 4, 3) := by decide +kernel
theorem d_L_value_14 : decode b_L_value 14 = .ok (.lconst 0, 1) := by decide +kernel
theorem d_L_value_15 : decode b_L_value 15 = .ok (.lastore, 1) := by decide +kernel
theorem d_L_value_16 : decode b_L_value 16 = .ok (.goto 6, 3) := by decide +kernel
theorem d_L_value_19 : decode b_L_value 19 = .ok (.astore_n 3, 1) := by decide +kernel
theorem d_L_value_20 : decode b_L_value 20 = .ok (.iconst 1, 1) := by decide +kernel
theorem d_L_value_21 : decode b_L_value 21 = .ok (.ireturn, 1) := by decide +kernel
theorem d_L_value_22 : decode b_L_value 22 = .ok (.iconst 0, 1) := by decide +kernel
theorem d_L_value_23 : decode b_L_value 23 = .ok (.ireturn, 1) := by decide +kernel
def rm_L_value : Room := { frames := 8, cells := 8, slots := 48, locals := 152 }
def f_L_value_15 (fu : Nat) (s0 : Nat) (s1 : Int32) (s2 : Int64) (w : List va_E) : Option (Int32 × List va_E) := ((hp_wl w s0 s1 s2).bind fun w1 => (some ((0 : Int32), w1)))
def f_L_value (fu : Nat) (v0 : Nat) (v1 : Int32) (v2 : Nat) (w : List va_E) : Option (Int32 × List va_E) := ((hp_is w v0 6).bind fun _ => (hl_bd (f_F_value fu v0 v1 w) (fun E9 u9 => if E9 = "java/lang/IllegalStateException" then some ((1 : Int32), u9) else none) fun a2 u3 => (if a2 = 0 then (f_L_value_15 fu (v2) ((0 : Int32)) ((0 : Int64)) u3) else (f_L_value_15 fu (v2) ((0 : Int32)) ((1 : Int64)) u3))))
section
variable {p : Program} {l : Launch} {e : Env} {s : State} {m : MethodId} {args : Array Value} {below : List Frame} {meth : Method} {c : Code} {D : va_G} {ca : Nat → Nat} {A : Nat → Prop} {ad : Nat → Nat}
set_option maxRecDepth 100000 in
set_option maxHeartbeats 4000000 in
theorem v_L_value_15 (K : av_K p s m args meth c D cl8 ca A b_L_value 4 R_L WS) (G : av_G NS tabON A s s.heap) (X : av_X A s s.heap) (N : av_N s) (hl : l.stackTraces = false) (ht : c.exceptionTable.toList = tableOf hh_L_value) (hr : meth.sig.returnType = some .int) (fu : Nat) {r : Int32 × List va_E} (s0 : Nat) (s1 : Int32) (s2 : Int64) (w : List va_E) (h : f_L_value_15 fu s0 s1 s2 w = some r) : av_HVI p l e rm_L_value s m args below meth c D cl8 A ad ca 4 r 8 48 15 [none, none, none, none] [.long s2, .int s1, .ref s0] w := by
  unfold f_L_value_15 at h
  obtain ⟨w1, ew1, h⟩ := hp_bd h
  refine hv_wl K d_L_value_15 ew1 ?_
  refine av_goto (tgt := 22) K d_L_value_16 rfl ?_
  refine av_iconst (v := (0 : Int32)) K d_L_value_22 (by decide) ?_
  obtain rfl := Option.some.inj h
  exact av_ireturn K hr d_L_value_23 rfl
set_option maxRecDepth 100000 in
set_option maxHeartbeats 4000000 in
theorem v_L_value (K : av_K p s m args meth c D cl8 ca A b_L_value 4 R_L WS) (G : av_G NS tabON A s s.heap) (X : av_X A s s.heap) (N : av_N s) (hl : l.stackTraces = false) (ht : c.exceptionTable.toList = tableOf hh_L_value) (hr : meth.sig.returnType = some .int) (fu : Nat) {r : Int32 × List va_E} (v0 : Nat) (v1 : Int32) (v2 : Nat) (w : List va_E) (h : f_L_value fu v0 v1 v2 w = some r) : av_HVI p l e rm_L_value s m args below meth c D cl8 A ad ca 4 r 0 0 0 [some (.ref v0), some (.int v1), some (.ref v2), none] [] w := by
  unfold f_L_value at h
  refine av_aload_n K d_L_value_0 rfl rfl ?_
  refine av_iconst (v := (0 : Int32)) K d_L_value_1 (by decide) ?_
  refine av_aload_n K d_L_value_2 rfl rfl ?_
  refine av_iload_n K d_L_value_3 rfl rfl ?_
  obtain ⟨_, eo4, h⟩ := hp_bd h
  obtain ⟨fs4, ho4⟩ := hp_is_of eo4
  obtain ⟨r1, er1, lr1, h⟩ := hl_of h
  refine av_hVi K G X (c_F_value hl er1) (cwV 1 K.2.2.2.2.1 (gV ml_L_36 im_F_value se_F_value in_F co_F_value) rfl rfl rfl cd_F_value ⟨(Nat.le_of_ble_eq_true rfl), (Nat.le_of_ble_eq_true rfl)⟩) rfl ho4 rfl rfl (Nat.le_of_ble_eq_true rfl) d_L_value_4 ⟨(Nat.le_of_ble_eq_true rfl), (Nat.le_of_ble_eq_true rfl)⟩ (fun E9 u9 h9 => ?_) (fun a2 u3 h9 => ?_)
  · have hq := lr1 E9 u9 h9.symm
    by_cases e0 : E9 = "java/lang/IllegalStateException"
    · rw [if_pos e0] at hq
      subst e0
      obtain rfl := Option.some.inj hq
      exact av_hand K X N ht hr (by decide) [] ⟨0, 16, 19, 15⟩ [] rfl (fun _ h => nomatch h) (by decide) (by decide) lk_15 (Or.inl ⟨d_L_value_19, rfl, rfl⟩) (Nat.le_of_ble_eq_true rfl) d_L_value_20 (by decide) d_L_value_21 rfl
    · rw [if_neg e0] at hq
      cases hq
  · have h := h a2 u3 h9.symm
    refine av_if_eq (tgt := 14) K d_L_value_7 rfl (fun hc => ?_) (fun hc => ?_)
    · rw [if_pos hc] at h
      refine av_lconst (v := (0 : Int64)) K d_L_value_14 (by decide) ?_
      refine hv_fg (L' := [none, none, none, none]) [0, 1, 2] rfl ?_
      exact v_L_value_15 K G X N hl ht hr fu (v2) ((0 : Int32)) ((0 : Int64)) _ h
    · rw [if_neg hc] at h
      refine av_lconst (v := (1 : Int64)) K d_L_value_10 (by decide) ?_
      refine av_goto (tgt := 15) K d_L_value_11 rfl ?_
      refine hv_fg (L' := [none, none, none, none]) [0, 1, 2] rfl ?_
      exact v_L_value_15 K G X N hl ht hr fu (v2) ((0 : Int32)) ((1 : Int64)) _ h
end
set_option maxRecDepth 100000 in
theorem c_L_value {l : Launch} {D : va_G} {ca : Nat → Nat} (hl : l.stackTraces = false) {fu : Nat} {v0 : Nat} {v1 : Int32} {v2 : Nat} {w : List va_E} {r : Int32 × List va_E} (h : f_L_value fu v0 v1 v2 w = some r) : av_Hi l D cl8 ca NS tabON y_L_value w_L_value rm_L_value 8 48 [.ref v0, .int v1, .ref v2] w (fun v u => (v, u) = r) :=
  av_inH (cc := b_L_value) (nL := 4) (hh := hh_L_value) (by decide +kernel) rfl (Nat.le_of_ble_eq_true rfl) (fun p e s m args below meth c A ad K G X N ht hr => v_L_value K G X N hl ht hr fu v0 v1 v2 w h)

-- FaultTreeDeskLaw.odds(LFaultTreeDesk;[J)I
abbrev b_L_odds : ByteArray := method_10_code
def y_L_odds : MethodName := ⟨"FaultTreeDeskLaw", "odds", "(LFaultTreeDesk;[J)I"⟩
def hh_L_odds : List (Nat × Nat × Nat × Nat) := [(0, 7, 10, 15)]
def w_L_odds : List Cond := Cond.codeWith y_L_odds b_L_odds 3 (some .int) hh_L_odds :: WS
set_option maxRecDepth 100000 in
theorem co_L_odds : Cond.codeWith y_L_odds b_L_odds 3 (some .int) hh_L_odds ∈ WS := ws_t (List.mem_of_getElem? (i := 460) rfl) rfl
theorem sm_L_odds : Cond.static y_L_odds ∈ WS := ws_t (List.mem_of_getElem? (i := 459) (by decide +kernel)) (by decide +kernel)
theorem ce_L_odds : y_L_odds.cls ≠ "java/lang/invoke/MethodHandle" ∧ y_L_odds.cls ≠ "java/lang/invoke/VarHandle" ∧ (parseMethodDescriptor y_L_odds.desc).map (fun d => d.parameters.length) = some 2 := by decide +kernel
theorem d_L_odds_0 : decode b_L_odds 0 = .ok (.aload_n 1, 1) := by decide +kernel
theorem d_L_odds_1 : decode b_L_odds 1 = .ok (.iconst 0, 1) := by decide +kernel
theorem d_L_odds_2 : decode b_L_odds 2 = .ok (.aload_n 0, 1) := by decide +kernel
theorem d_L_odds_3 : decode b_L_odds 3 = .ok (.invokevirtual 40, 3) := by decide +kernel
theorem d_L_odds_6 : decode b_L_odds 6 = .ok (.lastore, 1) := by decide +kernel
theorem d_L_odds_7 : decode b_L_odds 7 = .ok (.goto 6, 3) := by decide +kernel
theorem d_L_odds_10 : decode b_L_odds 10 = .ok (.astore_n 2, 1) := by decide +kernel
theorem d_L_odds_11 : decode b_L_odds 11 = .ok (.iconst 1, 1) := by decide +kernel
theorem d_L_odds_12 : decode b_L_odds 12 = .ok (.ireturn, 1) := by decide +kernel
theorem d_L_odds_13 : decode b_L_odds 13 = .ok (.iconst 0, 1) := by decide +kernel
theorem d_L_odds_14 : decode b_L_odds 14 = .ok (.ireturn, 1) := by decide +kernel
def rm_L_odds : Room := { frames := 8, cells := 8, slots := 48, locals := 151 }
def f_L_odds (fu : Nat) (v0 : Nat) (v1 : Nat) (w : List va_E) : Option (Int32 × List va_E) := ((hp_is w v0 6).bind fun _ => (hl_bd (f_F_odds fu v0 w) (fun E9 u9 => if E9 = "java/lang/IllegalStateException" then some ((1 : Int32), u9) else none) fun a2 u3 => ((hp_wl u3 v1 (0 : Int32) a2).bind fun w4 => (some ((0 : Int32), w4)))))
section
variable {p : Program} {l : Launch} {e : Env} {s : State} {m : MethodId} {args : Array Value} {below : List Frame} {meth : Method} {c : Code} {D : va_G} {ca : Nat → Nat} {A : Nat → Prop} {ad : Nat → Nat}
set_option maxRecDepth 100000 in
set_option maxHeartbeats 4000000 in
theorem v_L_odds (K : av_K p s m args meth c D cl8 ca A b_L_odds 3 R_L WS) (G : av_G NS tabON A s s.heap) (X : av_X A s s.heap) (N : av_N s) (hl : l.stackTraces = false) (ht : c.exceptionTable.toList = tableOf hh_L_odds) (hr : meth.sig.returnType = some .int) (fu : Nat) {r : Int32 × List va_E} (v0 : Nat) (v1 : Nat) (w : List va_E) (h : f_L_odds fu v0 v1 w = some r) : av_HVI p l e rm_L_odds s m args below meth c D cl8 A ad ca 3 r 0 0 0 [some (.ref v0), some (.ref v1), none] [] w := by
  unfold f_L_odds at h
  refine av_aload_n K d_L_odds_0 rfl rfl ?_
  refine av_iconst (v := (0 : Int32)) K d_L_odds_1 (by decide) ?_
  refine av_aload_n K d_L_odds_2 rfl rfl ?_
  obtain ⟨_, eo3, h⟩ := hp_bd h
  obtain ⟨fs3, ho3⟩ := hp_is_of eo3
  obtain ⟨r1, er1, lr1, h⟩ := hl_of h
  refine av_hVl K G X (c_F_odds hl er1) (cwV 0 K.2.2.2.2.1 (gV ml_L_40 im_F_odds se_F_odds in_F co_F_odds) rfl rfl rfl cd_F_odds ⟨(Nat.le_of_ble_eq_true rfl), (Nat.le_of_ble_eq_true rfl)⟩) rfl ho3 rfl rfl (Nat.le_of_ble_eq_true rfl) d_L_odds_3 ⟨(Nat.le_of_ble_eq_true rfl), (Nat.le_of_ble_eq_true rfl)⟩ (fun E9 u9 h9 => ?_) (fun a2 u3 h9 => ?_)
  · have hq := lr1 E9 u9 h9.symm
    by_cases e0 : E9 = "java/lang/IllegalStateException"
    · rw [if_pos e0] at hq
      subst e0
      obtain rfl := Option.some.inj hq
      exact av_hand K X N ht hr (by decide) [] ⟨0, 7, 10, 15⟩ [] rfl (fun _ h => nomatch h) (by decide) (by decide) lk_15 (Or.inr (Or.inl ⟨d_L_odds_10, rfl, rfl⟩)) (Nat.le_of_ble_eq_true rfl) d_L_odds_11 (by decide) d_L_odds_12 rfl
    · rw [if_neg e0] at hq
      cases hq
  · have h := h a2 u3 h9.symm
    obtain ⟨w4, ew4, h⟩ := hp_bd h
    refine hv_wl K d_L_odds_6 ew4 ?_
    refine av_goto (tgt := 13) K d_L_odds_7 rfl ?_
    refine av_iconst (v := (0 : Int32)) K d_L_odds_13 (by decide) ?_
    obtain rfl := Option.some.inj h
    exact av_ireturn K hr d_L_odds_14 rfl
end
set_option maxRecDepth 100000 in
theorem c_L_odds {l : Launch} {D : va_G} {ca : Nat → Nat} (hl : l.stackTraces = false) {fu : Nat} {v0 : Nat} {v1 : Nat} {w : List va_E} {r : Int32 × List va_E} (h : f_L_odds fu v0 v1 w = some r) : av_Hi l D cl8 ca NS tabON y_L_odds w_L_odds rm_L_odds 8 48 [.ref v0, .ref v1] w (fun v u => (v, u) = r) :=
  av_inH (cc := b_L_odds) (nL := 3) (hh := hh_L_odds) (by decide +kernel) rfl (Nat.le_of_ble_eq_true rfl) (fun p e s m args below meth c A ad K G X N ht hr => v_L_odds K G X N hl ht hr fu v0 v1 w h)

-- FaultTreeDeskLaw.digit(LFaultTreeDesk;I[J)I
abbrev b_L_digit : ByteArray := method_11_code
def y_L_digit : MethodName := ⟨"FaultTreeDeskLaw", "digit", "(LFaultTreeDesk;I[J)I"⟩
def hh_L_digit : List (Nat × Nat × Nat × Nat) := [(0, 9, 12, 13), (0, 9, 15, 15)]
def w_L_digit : List Cond := Cond.codeWith y_L_digit b_L_digit 4 (some .int) hh_L_digit :: WS
set_option maxRecDepth 100000 in
theorem co_L_digit : Cond.codeWith y_L_digit b_L_digit 4 (some .int) hh_L_digit ∈ WS := ws_t (List.mem_of_getElem? (i := 472) rfl) rfl
theorem sm_L_digit : Cond.static y_L_digit ∈ WS := ws_t (List.mem_of_getElem? (i := 471) (by decide +kernel)) (by decide +kernel)
theorem ce_L_digit : y_L_digit.cls ≠ "java/lang/invoke/MethodHandle" ∧ y_L_digit.cls ≠ "java/lang/invoke/VarHandle" ∧ (parseMethodDescriptor y_L_digit.desc).map (fun d => d.parameters.length) = some 3 := by decide +kernel
theorem d_L_digit_0 : decode b_L_digit 0 = .ok (.aload_n 2, 1) := by decide +kernel
theorem d_L_digit_1 : decode b_L_digit 1 = .ok (.iconst 0, 1) := by decide +kernel
theorem d_L_digit_2 : decode b_L_digit 2 = .ok (.aload_n 0, 1) := by decide +kernel
theorem d_L_digit_3 : decode b_L_digit 3 = .ok (.iload_n 1, 1) := by decide +kernel
theorem d_L_digit_4 : decode b_L_digit 4 = .ok (.invokevirtual 44, 3) := by decide +kernel
theorem d_L_digit_7 : decode b_L_digit 7 = .ok (.i2l, 1) := by decide +kernel
theorem d_L_digit_8 : decode b_L_digit 8 = .ok (.lastore, 1) := by decide +kernel
theorem d_L_digit_9 : decode b_L_digit 9 = .ok (.goto 9, 3) := by decide +kernel
theorem d_L_digit_12 : decode b_L_digit 12 = .ok (.astore_n 3, 1) := by decide +kernel
theorem d_L_digit_13 : decode b_L_digit 13 = .ok (.iconst 1, 1) := by decide +kernel
theorem d_L_digit_14 : decode b_L_digit 14 = .ok (.ireturn, 1) := by decide +kernel
theorem d_L_digit_15 : decode b_L_digit 15 = .ok (.astore_n 3, 1) := by decide +kernel
theorem d_L_digit_16 : decode b_L_digit 16 = .ok (.iconst 2, 1) := by decide +kernel
theorem d_L_digit_17 : decode b_L_digit 17 = .ok (.ireturn, 1) := by decide +kernel
theorem d_L_digit_18 : decode b_L_digit 18 = .ok (.iconst 0, 1) := by decide +kernel
theorem d_L_digit_19 : decode b_L_digit 19 = .ok (.ireturn, 1) := by decide +kernel
def rm_L_digit : Room := { frames := 8, cells := 8, slots := 48, locals := 152 }
def f_L_digit (fu : Nat) (v0 : Nat) (v1 : Int32) (v2 : Nat) (w : List va_E) : Option (Int32 × List va_E) := ((hp_is w v0 6).bind fun _ => (hl_bd (f_F_digit fu v0 v1 w) (fun E9 u9 => if E9 = "java/lang/IllegalArgumentException" then some ((1 : Int32), u9) else if E9 = "java/lang/IllegalStateException" then some ((2 : Int32), u9) else none) fun a2 u3 => ((hp_wl u3 v2 (0 : Int32) (a2).toInt64).bind fun w4 => (some ((0 : Int32), w4)))))
section
variable {p : Program} {l : Launch} {e : Env} {s : State} {m : MethodId} {args : Array Value} {below : List Frame} {meth : Method} {c : Code} {D : va_G} {ca : Nat → Nat} {A : Nat → Prop} {ad : Nat → Nat}
set_option maxRecDepth 100000 in
set_option maxHeartbeats 4000000 in
theorem v_L_digit (K : av_K p s m args meth c D cl8 ca A b_L_digit 4 R_L WS) (G : av_G NS tabON A s s.heap) (X : av_X A s s.heap) (N : av_N s) (hl : l.stackTraces = false) (ht : c.exceptionTable.toList = tableOf hh_L_digit) (hr : meth.sig.returnType = some .int) (fu : Nat) {r : Int32 × List va_E} (v0 : Nat) (v1 : Int32) (v2 : Nat) (w : List va_E) (h : f_L_digit fu v0 v1 v2 w = some r) : av_HVI p l e rm_L_digit s m args below meth c D cl8 A ad ca 4 r 0 0 0 [some (.ref v0), some (.int v1), some (.ref v2), none] [] w := by
  unfold f_L_digit at h
  refine av_aload_n K d_L_digit_0 rfl rfl ?_
  refine av_iconst (v := (0 : Int32)) K d_L_digit_1 (by decide) ?_
  refine av_aload_n K d_L_digit_2 rfl rfl ?_
  refine av_iload_n K d_L_digit_3 rfl rfl ?_
  obtain ⟨_, eo4, h⟩ := hp_bd h
  obtain ⟨fs4, ho4⟩ := hp_is_of eo4
  obtain ⟨r1, er1, lr1, h⟩ := hl_of h
  refine av_hVi K G X (c_F_digit hl er1) (cwV 1 K.2.2.2.2.1 (gV ml_L_44 im_F_digit se_F_digit in_F co_F_digit) rfl rfl rfl cd_F_digit ⟨(Nat.le_of_ble_eq_true rfl), (Nat.le_of_ble_eq_true rfl)⟩) rfl ho4 rfl rfl (Nat.le_of_ble_eq_true rfl) d_L_digit_4 ⟨(Nat.le_of_ble_eq_true rfl), (Nat.le_of_ble_eq_true rfl)⟩ (fun E9 u9 h9 => ?_) (fun a2 u3 h9 => ?_)
  · have hq := lr1 E9 u9 h9.symm
    by_cases e0 : E9 = "java/lang/IllegalArgumentException"
    · rw [if_pos e0] at hq
      subst e0
      obtain rfl := Option.some.inj hq
      exact av_hand K X N ht hr (by decide) [] ⟨0, 9, 12, 13⟩ [⟨0, 9, 15, 15⟩] rfl (fun _ h => nomatch h) (by decide) (by decide) lk_13 (Or.inl ⟨d_L_digit_12, rfl, rfl⟩) (Nat.le_of_ble_eq_true rfl) d_L_digit_13 (by decide) d_L_digit_14 rfl
    · rw [if_neg e0] at hq
      by_cases e1 : E9 = "java/lang/IllegalStateException"
      · rw [if_pos e1] at hq
        subst e1
        obtain rfl := Option.some.inj hq
        exact av_hand K X N ht hr (by decide) [⟨0, 9, 12, 13⟩] ⟨0, 9, 15, 15⟩ [] rfl (List.forall_mem_cons.mpr ⟨⟨by decide, _, lk_13, by decide⟩, (fun _ h => nomatch h)⟩) (by decide) (by decide) lk_15 (Or.inl ⟨d_L_digit_15, rfl, rfl⟩) (Nat.le_of_ble_eq_true rfl) d_L_digit_16 (by decide) d_L_digit_17 rfl
      · rw [if_neg e1] at hq
        cases hq
  · have h := h a2 u3 h9.symm
    refine av_i2l K d_L_digit_7 ?_
    obtain ⟨w4, ew4, h⟩ := hp_bd h
    refine hv_wl K d_L_digit_8 ew4 ?_
    refine av_goto (tgt := 18) K d_L_digit_9 rfl ?_
    refine av_iconst (v := (0 : Int32)) K d_L_digit_18 (by decide) ?_
    obtain rfl := Option.some.inj h
    exact av_ireturn K hr d_L_digit_19 rfl
end
set_option maxRecDepth 100000 in
theorem c_L_digit {l : Launch} {D : va_G} {ca : Nat → Nat} (hl : l.stackTraces = false) {fu : Nat} {v0 : Nat} {v1 : Int32} {v2 : Nat} {w : List va_E} {r : Int32 × List va_E} (h : f_L_digit fu v0 v1 v2 w = some r) : av_Hi l D cl8 ca NS tabON y_L_digit w_L_digit rm_L_digit 8 48 [.ref v0, .int v1, .ref v2] w (fun v u => (v, u) = r) :=
  av_inH (cc := b_L_digit) (nL := 4) (hh := hh_L_digit) (by decide +kernel) rfl (Nat.le_of_ble_eq_true rfl) (fun p e s m args below meth c A ad K G X N ht hr => v_L_digit K G X N hl ht hr fu v0 v1 v2 w h)

-- FaultTreeDeskLaw.weight(LFaultTreeDesk;I[J)I
abbrev b_L_weight : ByteArray := method_12_code
def y_L_weight : MethodName := ⟨"FaultTreeDeskLaw", "weight", "(LFaultTreeDesk;I[J)I"⟩
def hh_L_weight : List (Nat × Nat × Nat × Nat) := [(0, 8, 11, 13), (0, 8, 14, 15)]
def w_L_weight : List Cond := Cond.codeWith y_L_weight b_L_weight 4 (some .int) hh_L_weight :: WS
set_option maxRecDepth 100000 in
theorem co_L_weight : Cond.codeWith y_L_weight b_L_weight 4 (some .int) hh_L_weight ∈ WS := ws_t (List.mem_of_getElem? (i := 485) rfl) rfl
theorem sm_L_weight : Cond.static y_L_weight ∈ WS := ws_t (List.mem_of_getElem? (i := 484) (by decide +kernel)) (by decide +kernel)
theorem ce_L_weight : y_L_weight.cls ≠ "java/lang/invoke/MethodHandle" ∧ y_L_weight.cls ≠ "java/lang/invoke/VarHandle" ∧ (parseMethodDescriptor y_L_weight.desc).map (fun d => d.parameters.length) = some 3 := by decide +kernel
theorem d_L_weight_0 : decode b_L_weight 0 = .ok (.aload_n 2, 1) := by decide +kernel
theorem d_L_weight_1 : decode b_L_weight 1 = .ok (.iconst 0, 1) := by decide +kernel
theorem d_L_weight_2 : decode b_L_weight 2 = .ok (.aload_n 0, 1) := by decide +kernel
theorem d_L_weight_3 : decode b_L_weight 3 = .ok (.iload_n 1, 1) := by decide +kernel
theorem d_L_weight_4 : decode b_L_weight 4 = .ok (.invokevirtual 47, 3) := by decide +kernel
theorem d_L_weight_7 : decode b_L_weight 7 = .ok (.lastore, 1) := by decide +kernel
theorem d_L_weight_8 : decode b_L_weight 8 = .ok (.goto 9, 3) := by decide +kernel
theorem d_L_weight_11 : decode b_L_weight 11 = .ok (.astore_n 3, 1) := by decide +kernel
theorem d_L_weight_12 : decode b_L_weight 12 = .ok (.iconst 1, 1) := by decide +kernel
theorem d_L_weight_13 : decode b_L_weight 13 = .ok (.ireturn, 1) := by decide +kernel
theorem d_L_weight_14 : decode b_L_weight 14 = .ok (.astore_n 3, 1) := by decide +kernel
theorem d_L_weight_15 : decode b_L_weight 15 = .ok (.iconst 2, 1) := by decide +kernel
theorem d_L_weight_16 : decode b_L_weight 16 = .ok (.ireturn, 1) := by decide +kernel
theorem d_L_weight_17 : decode b_L_weight 17 = .ok (.iconst 0, 1) := by decide +kernel
theorem d_L_weight_18 : decode b_L_weight 18 = .ok (.ireturn, 1) := by decide +kernel
def rm_L_weight : Room := { frames := 8, cells := 8, slots := 48, locals := 152 }
def f_L_weight (fu : Nat) (v0 : Nat) (v1 : Int32) (v2 : Nat) (w : List va_E) : Option (Int32 × List va_E) := ((hp_is w v0 6).bind fun _ => (hl_bd (f_F_weight fu v0 v1 w) (fun E9 u9 => if E9 = "java/lang/IllegalArgumentException" then some ((1 : Int32), u9) else if E9 = "java/lang/IllegalStateException" then some ((2 : Int32), u9) else none) fun a2 u3 => ((hp_wl u3 v2 (0 : Int32) a2).bind fun w4 => (some ((0 : Int32), w4)))))
section
variable {p : Program} {l : Launch} {e : Env} {s : State} {m : MethodId} {args : Array Value} {below : List Frame} {meth : Method} {c : Code} {D : va_G} {ca : Nat → Nat} {A : Nat → Prop} {ad : Nat → Nat}
set_option maxRecDepth 100000 in
set_option maxHeartbeats 4000000 in
theorem v_L_weight (K : av_K p s m args meth c D cl8 ca A b_L_weight 4 R_L WS) (G : av_G NS tabON A s s.heap) (X : av_X A s s.heap) (N : av_N s) (hl : l.stackTraces = false) (ht : c.exceptionTable.toList = tableOf hh_L_weight) (hr : meth.sig.returnType = some .int) (fu : Nat) {r : Int32 × List va_E} (v0 : Nat) (v1 : Int32) (v2 : Nat) (w : List va_E) (h : f_L_weight fu v0 v1 v2 w = some r) : av_HVI p l e rm_L_weight s m args below meth c D cl8 A ad ca 4 r 0 0 0 [some (.ref v0), some (.int v1), some (.ref v2), none] [] w := by
  unfold f_L_weight at h
  refine av_aload_n K d_L_weight_0 rfl rfl ?_
  refine av_iconst (v := (0 : Int32)) K d_L_weight_1 (by decide) ?_
  refine av_aload_n K d_L_weight_2 rfl rfl ?_
  refine av_iload_n K d_L_weight_3 rfl rfl ?_
  obtain ⟨_, eo4, h⟩ := hp_bd h
  obtain ⟨fs4, ho4⟩ := hp_is_of eo4
  obtain ⟨r1, er1, lr1, h⟩ := hl_of h
  refine av_hVl K G X (c_F_weight hl er1) (cwV 1 K.2.2.2.2.1 (gV ml_L_47 im_F_weight se_F_weight in_F co_F_weight) rfl rfl rfl cd_F_weight ⟨(Nat.le_of_ble_eq_true rfl), (Nat.le_of_ble_eq_true rfl)⟩) rfl ho4 rfl rfl (Nat.le_of_ble_eq_true rfl) d_L_weight_4 ⟨(Nat.le_of_ble_eq_true rfl), (Nat.le_of_ble_eq_true rfl)⟩ (fun E9 u9 h9 => ?_) (fun a2 u3 h9 => ?_)
  · have hq := lr1 E9 u9 h9.symm
    by_cases e0 : E9 = "java/lang/IllegalArgumentException"
    · rw [if_pos e0] at hq
      subst e0
      obtain rfl := Option.some.inj hq
      exact av_hand K X N ht hr (by decide) [] ⟨0, 8, 11, 13⟩ [⟨0, 8, 14, 15⟩] rfl (fun _ h => nomatch h) (by decide) (by decide) lk_13 (Or.inl ⟨d_L_weight_11, rfl, rfl⟩) (Nat.le_of_ble_eq_true rfl) d_L_weight_12 (by decide) d_L_weight_13 rfl
    · rw [if_neg e0] at hq
      by_cases e1 : E9 = "java/lang/IllegalStateException"
      · rw [if_pos e1] at hq
        subst e1
        obtain rfl := Option.some.inj hq
        exact av_hand K X N ht hr (by decide) [⟨0, 8, 11, 13⟩] ⟨0, 8, 14, 15⟩ [] rfl (List.forall_mem_cons.mpr ⟨⟨by decide, _, lk_13, by decide⟩, (fun _ h => nomatch h)⟩) (by decide) (by decide) lk_15 (Or.inl ⟨d_L_weight_14, rfl, rfl⟩) (Nat.le_of_ble_eq_true rfl) d_L_weight_15 (by decide) d_L_weight_16 rfl
      · rw [if_neg e1] at hq
        cases hq
  · have h := h a2 u3 h9.symm
    obtain ⟨w4, ew4, h⟩ := hp_bd h
    refine hv_wl K d_L_weight_7 ew4 ?_
    refine av_goto (tgt := 17) K d_L_weight_8 rfl ?_
    refine av_iconst (v := (0 : Int32)) K d_L_weight_17 (by decide) ?_
    obtain rfl := Option.some.inj h
    exact av_ireturn K hr d_L_weight_18 rfl
end
set_option maxRecDepth 100000 in
theorem c_L_weight {l : Launch} {D : va_G} {ca : Nat → Nat} (hl : l.stackTraces = false) {fu : Nat} {v0 : Nat} {v1 : Int32} {v2 : Nat} {w : List va_E} {r : Int32 × List va_E} (h : f_L_weight fu v0 v1 v2 w = some r) : av_Hi l D cl8 ca NS tabON y_L_weight w_L_weight rm_L_weight 8 48 [.ref v0, .int v1, .ref v2] w (fun v u => (v, u) = r) :=
  av_inH (cc := b_L_weight) (nL := 4) (hh := hh_L_weight) (by decide +kernel) rfl (Nat.le_of_ble_eq_true rfl) (fun p e s m args below meth c A ad K G X N ht hr => v_L_weight K G X N hl ht hr fu v0 v1 v2 w h)

-- FaultTreeDeskLaw.nodes(LFaultTreeDesk;[J)I
abbrev b_L_nodes : ByteArray := method_13_code
def y_L_nodes : MethodName := ⟨"FaultTreeDeskLaw", "nodes", "(LFaultTreeDesk;[J)I"⟩
def hh_L_nodes : List (Nat × Nat × Nat × Nat) := [(0, 8, 11, 15)]
def w_L_nodes : List Cond := Cond.codeWith y_L_nodes b_L_nodes 3 (some .int) hh_L_nodes :: WS
set_option maxRecDepth 100000 in
theorem co_L_nodes : Cond.codeWith y_L_nodes b_L_nodes 3 (some .int) hh_L_nodes ∈ WS := ws_t (List.mem_of_getElem? (i := 492) rfl) rfl
theorem sm_L_nodes : Cond.static y_L_nodes ∈ WS := ws_t (List.mem_of_getElem? (i := 491) (by decide +kernel)) (by decide +kernel)
theorem ce_L_nodes : y_L_nodes.cls ≠ "java/lang/invoke/MethodHandle" ∧ y_L_nodes.cls ≠ "java/lang/invoke/VarHandle" ∧ (parseMethodDescriptor y_L_nodes.desc).map (fun d => d.parameters.length) = some 2 := by decide +kernel
theorem d_L_nodes_0 : decode b_L_nodes 0 = .ok (.aload_n 1, 1) := by decide +kernel
theorem d_L_nodes_1 : decode b_L_nodes 1 = .ok (.iconst 0, 1) := by decide +kernel
theorem d_L_nodes_2 : decode b_L_nodes 2 = .ok (.aload_n 0, 1) := by decide +kernel
theorem d_L_nodes_3 : decode b_L_nodes 3 = .ok (.invokevirtual 51, 3) := by decide +kernel
theorem d_L_nodes_6 : decode b_L_nodes 6 = .ok (.i2l, 1) := by decide +kernel
theorem d_L_nodes_7 : decode b_L_nodes 7 = .ok (.lastore, 1) := by decide +kernel
theorem d_L_nodes_8 : decode b_L_nodes 8 = .ok (.goto 6, 3) := by decide +kernel
theorem d_L_nodes_11 : decode b_L_nodes 11 = .ok (.astore_n 2, 1) := by decide +kernel
theorem d_L_nodes_12 : decode b_L_nodes 12 = .ok (.iconst 1, 1) := by decide +kernel
theorem d_L_nodes_13 : decode b_L_nodes 13 = .ok (.ireturn, 1) := by decide +kernel
theorem d_L_nodes_14 : decode b_L_nodes 14 = .ok (.iconst 0, 1) := by decide +kernel
theorem d_L_nodes_15 : decode b_L_nodes 15 = .ok (.ireturn, 1) := by decide +kernel
def rm_L_nodes : Room := { frames := 8, cells := 8, slots := 48, locals := 151 }
def f_L_nodes (fu : Nat) (v0 : Nat) (v1 : Nat) (w : List va_E) : Option (Int32 × List va_E) := ((hp_is w v0 6).bind fun _ => (hl_bd (f_F_nodes fu v0 w) (fun E9 u9 => if E9 = "java/lang/IllegalStateException" then some ((1 : Int32), u9) else none) fun a2 u3 => ((hp_wl u3 v1 (0 : Int32) (a2).toInt64).bind fun w4 => (some ((0 : Int32), w4)))))
section
variable {p : Program} {l : Launch} {e : Env} {s : State} {m : MethodId} {args : Array Value} {below : List Frame} {meth : Method} {c : Code} {D : va_G} {ca : Nat → Nat} {A : Nat → Prop} {ad : Nat → Nat}
set_option maxRecDepth 100000 in
set_option maxHeartbeats 4000000 in
theorem v_L_nodes (K : av_K p s m args meth c D cl8 ca A b_L_nodes 3 R_L WS) (G : av_G NS tabON A s s.heap) (X : av_X A s s.heap) (N : av_N s) (hl : l.stackTraces = false) (ht : c.exceptionTable.toList = tableOf hh_L_nodes) (hr : meth.sig.returnType = some .int) (fu : Nat) {r : Int32 × List va_E} (v0 : Nat) (v1 : Nat) (w : List va_E) (h : f_L_nodes fu v0 v1 w = some r) : av_HVI p l e rm_L_nodes s m args below meth c D cl8 A ad ca 3 r 0 0 0 [some (.ref v0), some (.ref v1), none] [] w := by
  unfold f_L_nodes at h
  refine av_aload_n K d_L_nodes_0 rfl rfl ?_
  refine av_iconst (v := (0 : Int32)) K d_L_nodes_1 (by decide) ?_
  refine av_aload_n K d_L_nodes_2 rfl rfl ?_
  obtain ⟨_, eo3, h⟩ := hp_bd h
  obtain ⟨fs3, ho3⟩ := hp_is_of eo3
  obtain ⟨r1, er1, lr1, h⟩ := hl_of h
  refine av_hVi K G X (c_F_nodes hl er1) (cwV 0 K.2.2.2.2.1 (gV ml_L_51 im_F_nodes se_F_nodes in_F co_F_nodes) rfl rfl rfl cd_F_nodes ⟨(Nat.le_of_ble_eq_true rfl), (Nat.le_of_ble_eq_true rfl)⟩) rfl ho3 rfl rfl (Nat.le_of_ble_eq_true rfl) d_L_nodes_3 ⟨(Nat.le_of_ble_eq_true rfl), (Nat.le_of_ble_eq_true rfl)⟩ (fun E9 u9 h9 => ?_) (fun a2 u3 h9 => ?_)
  · have hq := lr1 E9 u9 h9.symm
    by_cases e0 : E9 = "java/lang/IllegalStateException"
    · rw [if_pos e0] at hq
      subst e0
      obtain rfl := Option.some.inj hq
      exact av_hand K X N ht hr (by decide) [] ⟨0, 8, 11, 15⟩ [] rfl (fun _ h => nomatch h) (by decide) (by decide) lk_15 (Or.inr (Or.inl ⟨d_L_nodes_11, rfl, rfl⟩)) (Nat.le_of_ble_eq_true rfl) d_L_nodes_12 (by decide) d_L_nodes_13 rfl
    · rw [if_neg e0] at hq
      cases hq
  · have h := h a2 u3 h9.symm
    refine av_i2l K d_L_nodes_6 ?_
    obtain ⟨w4, ew4, h⟩ := hp_bd h
    refine hv_wl K d_L_nodes_7 ew4 ?_
    refine av_goto (tgt := 14) K d_L_nodes_8 rfl ?_
    refine av_iconst (v := (0 : Int32)) K d_L_nodes_14 (by decide) ?_
    obtain rfl := Option.some.inj h
    exact av_ireturn K hr d_L_nodes_15 rfl
end
set_option maxRecDepth 100000 in
theorem c_L_nodes {l : Launch} {D : va_G} {ca : Nat → Nat} (hl : l.stackTraces = false) {fu : Nat} {v0 : Nat} {v1 : Nat} {w : List va_E} {r : Int32 × List va_E} (h : f_L_nodes fu v0 v1 w = some r) : av_Hi l D cl8 ca NS tabON y_L_nodes w_L_nodes rm_L_nodes 8 48 [.ref v0, .ref v1] w (fun v u => (v, u) = r) :=
  av_inH (cc := b_L_nodes) (nL := 3) (hh := hh_L_nodes) (by decide +kernel) rfl (Nat.le_of_ble_eq_true rfl) (fun p e s m args below meth c A ad K G X N ht hr => v_L_nodes K G X N hl ht hr fu v0 v1 w h)

-- FaultTreeDeskLaw.primes(LFaultTreeDesk;I[J)I
abbrev b_L_primes : ByteArray := method_14_code
def y_L_primes : MethodName := ⟨"FaultTreeDeskLaw", "primes", "(LFaultTreeDesk;I[J)I"⟩
def hh_L_primes : List (Nat × Nat × Nat × Nat) := [(0, 9, 12, 13), (0, 9, 15, 15), (0, 9, 18, 30)]
def w_L_primes : List Cond := Cond.codeWith y_L_primes b_L_primes 4 (some .int) hh_L_primes :: WS
set_option maxRecDepth 100000 in
theorem co_L_primes : Cond.codeWith y_L_primes b_L_primes 4 (some .int) hh_L_primes ∈ WS := ws_t (List.mem_of_getElem? (i := 508) rfl) rfl
theorem sm_L_primes : Cond.static y_L_primes ∈ WS := ws_t (List.mem_of_getElem? (i := 507) (by decide +kernel)) (by decide +kernel)
theorem ce_L_primes : y_L_primes.cls ≠ "java/lang/invoke/MethodHandle" ∧ y_L_primes.cls ≠ "java/lang/invoke/VarHandle" ∧ (parseMethodDescriptor y_L_primes.desc).map (fun d => d.parameters.length) = some 3 := by decide +kernel
theorem d_L_primes_0 : decode b_L_primes 0 = .ok (.aload_n 2, 1) := by decide +kernel
theorem d_L_primes_1 : decode b_L_primes 1 = .ok (.iconst 0, 1) := by decide +kernel
theorem d_L_primes_2 : decode b_L_primes 2 = .ok (.aload_n 0, 1) := by decide +kernel
theorem d_L_primes_3 : decode b_L_primes 3 = .ok (.iload_n 1, 1) := by decide +kernel
theorem d_L_primes_4 : decode b_L_primes 4 = .ok (.invokevirtual 55, 3) := by decide +kernel
theorem d_L_primes_7 : decode b_L_primes 7 = .ok (.i2l, 1) := by decide +kernel
theorem d_L_primes_8 : decode b_L_primes 8 = .ok (.lastore, 1) := by decide +kernel
theorem d_L_primes_9 : decode b_L_primes 9 = .ok (.goto 12, 3) := by decide +kernel
theorem d_L_primes_12 : decode b_L_primes 12 = .ok (.astore_n 3, 1) := by decide +kernel
theorem d_L_primes_13 : decode b_L_primes 13 = .ok (.iconst 1, 1) := by decide +kernel
theorem d_L_primes_14 : decode b_L_primes 14 = .ok (.ireturn, 1) := by decide +kernel
theorem d_L_primes_15 : decode b_L_primes 15 = .ok (.astore_n 3, 1) := by decide +kernel
theorem d_L_primes_16 : decode b_L_primes 16 = .ok (.iconst 2, 1) := by decide +kernel
theorem d_L_primes_17 : decode b_L_primes 17 = .ok (.ireturn, 1) := by decide +kernel
theorem d_L_primes_18 : decode b_L_primes 18 = .ok (.astore_n 3, 1) := by decide +kernel
theorem d_L_primes_19 : decode b_L_primes 19 = .ok (.iconst 3, 1) := by decide +kernel
theorem d_L_primes_20 : decode b_L_primes 20 = .ok (.ireturn, 1) := by decide +kernel
theorem d_L_primes_21 : decode b_L_primes 21 = .ok (.iconst 0, 1) := by decide +kernel
theorem d_L_primes_22 : decode b_L_primes 22 = .ok (.ireturn, 1) := by decide +kernel
def rm_L_primes : Room := { frames := 21, cells := 8, slots := 48, locals := 876 }
def f_L_primes (fu : Nat) (v0 : Nat) (v1 : Int32) (v2 : Nat) (w : List va_E) : Option (Int32 × List va_E) := ((hp_is w v0 6).bind fun _ => (hl_bd (f_F_primes fu v0 v1 w) (fun E9 u9 => if E9 = "java/lang/IllegalArgumentException" then some ((1 : Int32), u9) else if E9 = "java/lang/IllegalStateException" then some ((2 : Int32), u9) else if E9 = "java/lang/UnsupportedOperationException" then some ((3 : Int32), u9) else none) fun a2 u3 => ((hp_wl u3 v2 (0 : Int32) (a2).toInt64).bind fun w4 => (some ((0 : Int32), w4)))))
section
variable {p : Program} {l : Launch} {e : Env} {s : State} {m : MethodId} {args : Array Value} {below : List Frame} {meth : Method} {c : Code} {D : va_G} {ca : Nat → Nat} {A : Nat → Prop} {ad : Nat → Nat}
set_option maxRecDepth 100000 in
set_option maxHeartbeats 4000000 in
theorem v_L_primes (K : av_K p s m args meth c D cl8 ca A b_L_primes 4 R_L WS) (G : av_G NS tabON A s s.heap) (X : av_X A s s.heap) (N : av_N s) (hl : l.stackTraces = false) (ht : c.exceptionTable.toList = tableOf hh_L_primes) (hr : meth.sig.returnType = some .int) (fu : Nat) {r : Int32 × List va_E} (v0 : Nat) (v1 : Int32) (v2 : Nat) (w : List va_E) (h : f_L_primes fu v0 v1 v2 w = some r) : av_HVI p l e rm_L_primes s m args below meth c D cl8 A ad ca 4 r 0 0 0 [some (.ref v0), some (.int v1), some (.ref v2), none] [] w := by
  unfold f_L_primes at h
  refine av_aload_n K d_L_primes_0 rfl rfl ?_
  refine av_iconst (v := (0 : Int32)) K d_L_primes_1 (by decide) ?_
  refine av_aload_n K d_L_primes_2 rfl rfl ?_
  refine av_iload_n K d_L_primes_3 rfl rfl ?_
  obtain ⟨_, eo4, h⟩ := hp_bd h
  obtain ⟨fs4, ho4⟩ := hp_is_of eo4
  obtain ⟨r1, er1, lr1, h⟩ := hl_of h
  refine av_hVi K G X (c_F_primes hl er1) (cwV 1 K.2.2.2.2.1 (gV ml_L_55 im_F_primes se_F_primes in_F co_F_primes) rfl rfl rfl cd_F_primes ⟨(Nat.le_of_ble_eq_true rfl), (Nat.le_of_ble_eq_true rfl)⟩) rfl ho4 rfl rfl (Nat.le_of_ble_eq_true rfl) d_L_primes_4 ⟨(Nat.le_of_ble_eq_true rfl), (Nat.le_of_ble_eq_true rfl)⟩ (fun E9 u9 h9 => ?_) (fun a2 u3 h9 => ?_)
  · have hq := lr1 E9 u9 h9.symm
    by_cases e0 : E9 = "java/lang/IllegalArgumentException"
    · rw [if_pos e0] at hq
      subst e0
      obtain rfl := Option.some.inj hq
      exact av_hand K X N ht hr (by decide) [] ⟨0, 9, 12, 13⟩ [⟨0, 9, 15, 15⟩, ⟨0, 9, 18, 30⟩] rfl (fun _ h => nomatch h) (by decide) (by decide) lk_13 (Or.inl ⟨d_L_primes_12, rfl, rfl⟩) (Nat.le_of_ble_eq_true rfl) d_L_primes_13 (by decide) d_L_primes_14 rfl
    · rw [if_neg e0] at hq
      by_cases e1 : E9 = "java/lang/IllegalStateException"
      · rw [if_pos e1] at hq
        subst e1
        obtain rfl := Option.some.inj hq
        exact av_hand K X N ht hr (by decide) [⟨0, 9, 12, 13⟩] ⟨0, 9, 15, 15⟩ [⟨0, 9, 18, 30⟩] rfl (List.forall_mem_cons.mpr ⟨⟨by decide, _, lk_13, by decide⟩, (fun _ h => nomatch h)⟩) (by decide) (by decide) lk_15 (Or.inl ⟨d_L_primes_15, rfl, rfl⟩) (Nat.le_of_ble_eq_true rfl) d_L_primes_16 (by decide) d_L_primes_17 rfl
      · rw [if_neg e1] at hq
        by_cases e2 : E9 = "java/lang/UnsupportedOperationException"
        · rw [if_pos e2] at hq
          subst e2
          obtain rfl := Option.some.inj hq
          exact av_hand K X N ht hr (by decide) [⟨0, 9, 12, 13⟩, ⟨0, 9, 15, 15⟩] ⟨0, 9, 18, 30⟩ [] rfl (List.forall_mem_cons.mpr ⟨⟨by decide, _, lk_13, by decide⟩, (List.forall_mem_cons.mpr ⟨⟨by decide, _, lk_15, by decide⟩, (fun _ h => nomatch h)⟩)⟩) (by decide) (by decide) lk_30 (Or.inl ⟨d_L_primes_18, rfl, rfl⟩) (Nat.le_of_ble_eq_true rfl) d_L_primes_19 (by decide) d_L_primes_20 rfl
        · rw [if_neg e2] at hq
          cases hq
  · have h := h a2 u3 h9.symm
    refine av_i2l K d_L_primes_7 ?_
    obtain ⟨w4, ew4, h⟩ := hp_bd h
    refine hv_wl K d_L_primes_8 ew4 ?_
    refine av_goto (tgt := 21) K d_L_primes_9 rfl ?_
    refine av_iconst (v := (0 : Int32)) K d_L_primes_21 (by decide) ?_
    obtain rfl := Option.some.inj h
    exact av_ireturn K hr d_L_primes_22 rfl
end
set_option maxRecDepth 100000 in
theorem c_L_primes {l : Launch} {D : va_G} {ca : Nat → Nat} (hl : l.stackTraces = false) {fu : Nat} {v0 : Nat} {v1 : Int32} {v2 : Nat} {w : List va_E} {r : Int32 × List va_E} (h : f_L_primes fu v0 v1 v2 w = some r) : av_Hi l D cl8 ca NS tabON y_L_primes w_L_primes rm_L_primes 8 48 [.ref v0, .int v1, .ref v2] w (fun v u => (v, u) = r) :=
  av_inH (cc := b_L_primes) (nL := 4) (hh := hh_L_primes) (by decide +kernel) rfl (Nat.le_of_ble_eq_true rfl) (fun p e s m args below meth c A ad K G X N ht hr => v_L_primes K G X N hl ht hr fu v0 v1 v2 w h)

-- FaultTreeDeskLaw.prime(LFaultTreeDesk;II[J)I
abbrev b_L_prime : ByteArray := method_15_code
def y_L_prime : MethodName := ⟨"FaultTreeDeskLaw", "prime", "(LFaultTreeDesk;II[J)I"⟩
def hh_L_prime : List (Nat × Nat × Nat × Nat) := [(0, 10, 13, 13), (0, 10, 17, 15), (0, 10, 21, 30), (0, 10, 25, 61)]
def w_L_prime : List Cond := Cond.codeWith y_L_prime b_L_prime 5 (some .int) hh_L_prime :: WS
set_option maxRecDepth 100000 in
theorem co_L_prime : Cond.codeWith y_L_prime b_L_prime 5 (some .int) hh_L_prime ∈ WS := ws_t (List.mem_of_getElem? (i := 569) rfl) rfl
theorem sm_L_prime : Cond.static y_L_prime ∈ WS := ws_t (List.mem_of_getElem? (i := 568) (by decide +kernel)) (by decide +kernel)
theorem ce_L_prime : y_L_prime.cls ≠ "java/lang/invoke/MethodHandle" ∧ y_L_prime.cls ≠ "java/lang/invoke/VarHandle" ∧ (parseMethodDescriptor y_L_prime.desc).map (fun d => d.parameters.length) = some 4 := by decide +kernel
theorem d_L_prime_0 : decode b_L_prime 0 = .ok (.aload_n 3, 1) := by decide +kernel
theorem d_L_prime_1 : decode b_L_prime 1 = .ok (.iconst 0, 1) := by decide +kernel
theorem d_L_prime_2 : decode b_L_prime 2 = .ok (.aload_n 0, 1) := by decide +kernel
theorem d_L_prime_3 : decode b_L_prime 3 = .ok (.iload_n 1, 1) := by decide +kernel
theorem d_L_prime_4 : decode b_L_prime 4 = .ok (.iload_n 2, 1) := by decide +kernel
theorem d_L_prime_5 : decode b_L_prime 5 = .ok (.invokevirtual 58, 3) := by decide +kernel
theorem d_L_prime_8 : decode b_L_prime 8 = .ok (.i2l, 1) := by decide +kernel
theorem d_L_prime_9 : decode b_L_prime 9 = .ok (.lastore, 1) := by decide +kernel
theorem d_L_prime_10 : decode b_L_prime 10 = .ok (.goto 19, 3) := by decide +kernel
theorem d_L_prime_13 : decode b_L_prime 13 = .ok (.astore 4, 2) := by decide +kernel
theorem d_L_prime_15 : decode b_L_prime 15 = .ok (.iconst 1, 1) := by decide +kernel
theorem d_L_prime_16 : decode b_L_prime 16 = .ok (.ireturn, 1) := by decide +kernel
theorem d_L_prime_17 : decode b_L_prime 17 = .ok (.astore 4, 2) := by decide +kernel
theorem d_L_prime_19 : decode b_L_prime 19 = .ok (.iconst 2, 1) := by decide +kernel
theorem d_L_prime_20 : decode b_L_prime 20 = .ok (.ireturn, 1) := by decide +kernel
theorem d_L_prime_21 : decode b_L_prime 21 = .ok (.astore 4, 2) := by decide +kernel
theorem d_L_prime_23 : decode b_L_prime 23 = .ok (.iconst 3, 1) := by decide +kernel
theorem d_L_prime_24 : decode b_L_prime 24 = .ok (.ireturn, 1) := by decide +kernel
theorem d_L_prime_25 : decode b_L_prime 25 = .ok (.astore 4, 2) := by decide +kernel
theorem d_L_prime_27 : decode b_L_prime 27 = .ok (.iconst 4, 1) := by decide +kernel
theorem d_L_prime_28 : decode b_L_prime 28 = .ok (.ireturn, 1) := by decide +kernel
theorem d_L_prime_29 : decode b_L_prime 29 = .ok (.iconst 0, 1) := by decide +kernel
theorem d_L_prime_30 : decode b_L_prime 30 = .ok (.ireturn, 1) := by decide +kernel
def rm_L_prime : Room := { frames := 21, cells := 8, slots := 48, locals := 877 }
def f_L_prime (fu : Nat) (v0 : Nat) (v1 : Int32) (v2 : Int32) (v3 : Nat) (w : List va_E) : Option (Int32 × List va_E) := ((hp_is w v0 6).bind fun _ => (hl_bd (f_F_prime fu v0 v1 v2 w) (fun E9 u9 => if E9 = "java/lang/IllegalArgumentException" then some ((1 : Int32), u9) else if E9 = "java/lang/IllegalStateException" then some ((2 : Int32), u9) else if E9 = "java/lang/UnsupportedOperationException" then some ((3 : Int32), u9) else if E9 = "java/lang/IndexOutOfBoundsException" then some ((4 : Int32), u9) else none) fun a2 u3 => ((hp_wl u3 v3 (0 : Int32) (a2).toInt64).bind fun w4 => (some ((0 : Int32), w4)))))
section
variable {p : Program} {l : Launch} {e : Env} {s : State} {m : MethodId} {args : Array Value} {below : List Frame} {meth : Method} {c : Code} {D : va_G} {ca : Nat → Nat} {A : Nat → Prop} {ad : Nat → Nat}
set_option maxRecDepth 100000 in
set_option maxHeartbeats 4000000 in
theorem v_L_prime (K : av_K p s m args meth c D cl8 ca A b_L_prime 5 R_L WS) (G : av_G NS tabON A s s.heap) (X : av_X A s s.heap) (N : av_N s) (hl : l.stackTraces = false) (ht : c.exceptionTable.toList = tableOf hh_L_prime) (hr : meth.sig.returnType = some .int) (fu : Nat) {r : Int32 × List va_E} (v0 : Nat) (v1 : Int32) (v2 : Int32) (v3 : Nat) (w : List va_E) (h : f_L_prime fu v0 v1 v2 v3 w = some r) : av_HVI p l e rm_L_prime s m args below meth c D cl8 A ad ca 5 r 0 0 0 [some (.ref v0), some (.int v1), some (.int v2), some (.ref v3), none] [] w := by
  unfold f_L_prime at h
  refine av_aload_n K d_L_prime_0 rfl rfl ?_
  refine av_iconst (v := (0 : Int32)) K d_L_prime_1 (by decide) ?_
  refine av_aload_n K d_L_prime_2 rfl rfl ?_
  refine av_iload_n K d_L_prime_3 rfl rfl ?_
  refine av_iload_n K d_L_prime_4 rfl rfl ?_
  obtain ⟨_, eo5, h⟩ := hp_bd h
  obtain ⟨fs5, ho5⟩ := hp_is_of eo5
  obtain ⟨r1, er1, lr1, h⟩ := hl_of h
  refine av_hVi K G X (c_F_prime hl er1) (cwV 2 K.2.2.2.2.1 (gV ml_L_58 im_F_prime se_F_prime in_F co_F_prime) rfl rfl rfl cd_F_prime ⟨(Nat.le_of_ble_eq_true rfl), (Nat.le_of_ble_eq_true rfl)⟩) rfl ho5 rfl rfl (Nat.le_of_ble_eq_true rfl) d_L_prime_5 ⟨(Nat.le_of_ble_eq_true rfl), (Nat.le_of_ble_eq_true rfl)⟩ (fun E9 u9 h9 => ?_) (fun a2 u3 h9 => ?_)
  · have hq := lr1 E9 u9 h9.symm
    by_cases e0 : E9 = "java/lang/IllegalArgumentException"
    · rw [if_pos e0] at hq
      subst e0
      obtain rfl := Option.some.inj hq
      exact av_hand K X N ht hr (by decide) [] ⟨0, 10, 13, 13⟩ [⟨0, 10, 17, 15⟩, ⟨0, 10, 21, 30⟩, ⟨0, 10, 25, 61⟩] rfl (fun _ h => nomatch h) (by decide) (by decide) lk_13 (Or.inr (Or.inr ⟨d_L_prime_13, rfl, rfl⟩)) (Nat.le_of_ble_eq_true rfl) d_L_prime_15 (by decide) d_L_prime_16 rfl
    · rw [if_neg e0] at hq
      by_cases e1 : E9 = "java/lang/IllegalStateException"
      · rw [if_pos e1] at hq
        subst e1
        obtain rfl := Option.some.inj hq
        exact av_hand K X N ht hr (by decide) [⟨0, 10, 13, 13⟩] ⟨0, 10, 17, 15⟩ [⟨0, 10, 21, 30⟩, ⟨0, 10, 25, 61⟩] rfl (List.forall_mem_cons.mpr ⟨⟨by decide, _, lk_13, by decide⟩, (fun _ h => nomatch h)⟩) (by decide) (by decide) lk_15 (Or.inr (Or.inr ⟨d_L_prime_17, rfl, rfl⟩)) (Nat.le_of_ble_eq_true rfl) d_L_prime_19 (by decide) d_L_prime_20 rfl
      · rw [if_neg e1] at hq
        by_cases e2 : E9 = "java/lang/UnsupportedOperationException"
        · rw [if_pos e2] at hq
          subst e2
          obtain rfl := Option.some.inj hq
          exact av_hand K X N ht hr (by decide) [⟨0, 10, 13, 13⟩, ⟨0, 10, 17, 15⟩] ⟨0, 10, 21, 30⟩ [⟨0, 10, 25, 61⟩] rfl (List.forall_mem_cons.mpr ⟨⟨by decide, _, lk_13, by decide⟩, (List.forall_mem_cons.mpr ⟨⟨by decide, _, lk_15, by decide⟩, (fun _ h => nomatch h)⟩)⟩) (by decide) (by decide) lk_30 (Or.inr (Or.inr ⟨d_L_prime_21, rfl, rfl⟩)) (Nat.le_of_ble_eq_true rfl) d_L_prime_23 (by decide) d_L_prime_24 rfl
        · rw [if_neg e2] at hq
          by_cases e3 : E9 = "java/lang/IndexOutOfBoundsException"
          · rw [if_pos e3] at hq
            subst e3
            obtain rfl := Option.some.inj hq
            exact av_hand K X N ht hr (by decide) [⟨0, 10, 13, 13⟩, ⟨0, 10, 17, 15⟩, ⟨0, 10, 21, 30⟩] ⟨0, 10, 25, 61⟩ [] rfl (List.forall_mem_cons.mpr ⟨⟨by decide, _, lk_13, by decide⟩, (List.forall_mem_cons.mpr ⟨⟨by decide, _, lk_15, by decide⟩, (List.forall_mem_cons.mpr ⟨⟨by decide, _, lk_30, by decide⟩, (fun _ h => nomatch h)⟩)⟩)⟩) (by decide) (by decide) lk_61 (Or.inr (Or.inr ⟨d_L_prime_25, rfl, rfl⟩)) (Nat.le_of_ble_eq_true rfl) d_L_prime_27 (by decide) d_L_prime_28 rfl
          · rw [if_neg e3] at hq
            cases hq
  · have h := h a2 u3 h9.symm
    refine av_i2l K d_L_prime_8 ?_
    obtain ⟨w4, ew4, h⟩ := hp_bd h
    refine hv_wl K d_L_prime_9 ew4 ?_
    refine av_goto (tgt := 29) K d_L_prime_10 rfl ?_
    refine av_iconst (v := (0 : Int32)) K d_L_prime_29 (by decide) ?_
    obtain rfl := Option.some.inj h
    exact av_ireturn K hr d_L_prime_30 rfl
end
set_option maxRecDepth 100000 in
theorem c_L_prime {l : Launch} {D : va_G} {ca : Nat → Nat} (hl : l.stackTraces = false) {fu : Nat} {v0 : Nat} {v1 : Int32} {v2 : Int32} {v3 : Nat} {w : List va_E} {r : Int32 × List va_E} (h : f_L_prime fu v0 v1 v2 v3 w = some r) : av_Hi l D cl8 ca NS tabON y_L_prime w_L_prime rm_L_prime 8 48 [.ref v0, .int v1, .int v2, .ref v3] w (fun v u => (v, u) = r) :=
  av_inH (cc := b_L_prime) (nL := 5) (hh := hh_L_prime) (by decide +kernel) rfl (Nat.le_of_ble_eq_true rfl) (fun p e s m args below meth c A ad K G X N ht hr => v_L_prime K G X N hl ht hr fu v0 v1 v2 v3 w h)

-- FaultTreeDeskLaw.share(LFaultTreeDesk;I[J)I
abbrev b_L_share : ByteArray := method_16_code
def y_L_share : MethodName := ⟨"FaultTreeDeskLaw", "share", "(LFaultTreeDesk;I[J)I"⟩
def hh_L_share : List (Nat × Nat × Nat × Nat) := [(0, 9, 12, 13), (0, 9, 15, 15), (0, 9, 18, 30)]
def w_L_share : List Cond := Cond.codeWith y_L_share b_L_share 4 (some .int) hh_L_share :: WS
set_option maxRecDepth 100000 in
theorem co_L_share : Cond.codeWith y_L_share b_L_share 4 (some .int) hh_L_share ∈ WS := ws_t (List.mem_of_getElem? (i := 602) rfl) rfl
theorem sm_L_share : Cond.static y_L_share ∈ WS := ws_t (List.mem_of_getElem? (i := 601) (by decide +kernel)) (by decide +kernel)
theorem ce_L_share : y_L_share.cls ≠ "java/lang/invoke/MethodHandle" ∧ y_L_share.cls ≠ "java/lang/invoke/VarHandle" ∧ (parseMethodDescriptor y_L_share.desc).map (fun d => d.parameters.length) = some 3 := by decide +kernel
theorem d_L_share_0 : decode b_L_share 0 = .ok (.aload_n 2, 1) := by decide +kernel
theorem d_L_share_1 : decode b_L_share 1 = .ok (.iconst 0, 1) := by decide +kernel
theorem d_L_share_2 : decode b_L_share 2 = .ok (.aload_n 0, 1) := by decide +kernel
theorem d_L_share_3 : decode b_L_share 3 = .ok (.iload_n 1, 1) := by decide +kernel
theorem d_L_share_4 : decode b_L_share 4 = .ok (.invokevirtual 63, 3) := by decide +kernel
theorem d_L_share_7 : decode b_L_share 7 = .ok (.i2l, 1) := by decide +kernel
theorem d_L_share_8 : decode b_L_share 8 = .ok (.lastore, 1) := by decide +kernel
theorem d_L_share_9 : decode b_L_share 9 = .ok (.goto 12, 3) := by decide +kernel
theorem d_L_share_12 : decode b_L_share 12 = .ok (.astore_n 3, 1) := by decide +kernel
theorem d_L_share_13 : decode b_L_share 13 = .ok (.iconst 1, 1) := by decide +kernel
theorem d_L_share_14 : decode b_L_share 14 = .ok (.ireturn, 1) := by decide +kernel
theorem d_L_share_15 : decode b_L_share 15 = .ok (.astore_n 3, 1) := by decide +kernel
theorem d_L_share_16 : decode b_L_share 16 = .ok (.iconst 2, 1) := by decide +kernel
theorem d_L_share_17 : decode b_L_share 17 = .ok (.ireturn, 1) := by decide +kernel
theorem d_L_share_18 : decode b_L_share 18 = .ok (.astore_n 3, 1) := by decide +kernel
theorem d_L_share_19 : decode b_L_share 19 = .ok (.iconst 3, 1) := by decide +kernel
theorem d_L_share_20 : decode b_L_share 20 = .ok (.ireturn, 1) := by decide +kernel
theorem d_L_share_21 : decode b_L_share 21 = .ok (.iconst 0, 1) := by decide +kernel
theorem d_L_share_22 : decode b_L_share 22 = .ok (.ireturn, 1) := by decide +kernel
def rm_L_share : Room := { frames := 21, cells := 8, slots := 48, locals := 876 }
def f_L_share (fu : Nat) (v0 : Nat) (v1 : Int32) (v2 : Nat) (w : List va_E) : Option (Int32 × List va_E) := ((hp_is w v0 6).bind fun _ => (hl_bd (f_F_share fu v0 v1 w) (fun E9 u9 => if E9 = "java/lang/IllegalArgumentException" then some ((1 : Int32), u9) else if E9 = "java/lang/IllegalStateException" then some ((2 : Int32), u9) else if E9 = "java/lang/UnsupportedOperationException" then some ((3 : Int32), u9) else none) fun a2 u3 => ((hp_wl u3 v2 (0 : Int32) (a2).toInt64).bind fun w4 => (some ((0 : Int32), w4)))))
section
variable {p : Program} {l : Launch} {e : Env} {s : State} {m : MethodId} {args : Array Value} {below : List Frame} {meth : Method} {c : Code} {D : va_G} {ca : Nat → Nat} {A : Nat → Prop} {ad : Nat → Nat}
set_option maxRecDepth 100000 in
set_option maxHeartbeats 4000000 in
theorem v_L_share (K : av_K p s m args meth c D cl8 ca A b_L_share 4 R_L WS) (G : av_G NS tabON A s s.heap) (X : av_X A s s.heap) (N : av_N s) (hl : l.stackTraces = false) (ht : c.exceptionTable.toList = tableOf hh_L_share) (hr : meth.sig.returnType = some .int) (fu : Nat) {r : Int32 × List va_E} (v0 : Nat) (v1 : Int32) (v2 : Nat) (w : List va_E) (h : f_L_share fu v0 v1 v2 w = some r) : av_HVI p l e rm_L_share s m args below meth c D cl8 A ad ca 4 r 0 0 0 [some (.ref v0), some (.int v1), some (.ref v2), none] [] w := by
  unfold f_L_share at h
  refine av_aload_n K d_L_share_0 rfl rfl ?_
  refine av_iconst (v := (0 : Int32)) K d_L_share_1 (by decide) ?_
  refine av_aload_n K d_L_share_2 rfl rfl ?_
  refine av_iload_n K d_L_share_3 rfl rfl ?_
  obtain ⟨_, eo4, h⟩ := hp_bd h
  obtain ⟨fs4, ho4⟩ := hp_is_of eo4
  obtain ⟨r1, er1, lr1, h⟩ := hl_of h
  refine av_hVi K G X (c_F_share hl er1) (cwV 1 K.2.2.2.2.1 (gV ml_L_63 im_F_share se_F_share in_F co_F_share) rfl rfl rfl cd_F_share ⟨(Nat.le_of_ble_eq_true rfl), (Nat.le_of_ble_eq_true rfl)⟩) rfl ho4 rfl rfl (Nat.le_of_ble_eq_true rfl) d_L_share_4 ⟨(Nat.le_of_ble_eq_true rfl), (Nat.le_of_ble_eq_true rfl)⟩ (fun E9 u9 h9 => ?_) (fun a2 u3 h9 => ?_)
  · have hq := lr1 E9 u9 h9.symm
    by_cases e0 : E9 = "java/lang/IllegalArgumentException"
    · rw [if_pos e0] at hq
      subst e0
      obtain rfl := Option.some.inj hq
      exact av_hand K X N ht hr (by decide) [] ⟨0, 9, 12, 13⟩ [⟨0, 9, 15, 15⟩, ⟨0, 9, 18, 30⟩] rfl (fun _ h => nomatch h) (by decide) (by decide) lk_13 (Or.inl ⟨d_L_share_12, rfl, rfl⟩) (Nat.le_of_ble_eq_true rfl) d_L_share_13 (by decide) d_L_share_14 rfl
    · rw [if_neg e0] at hq
      by_cases e1 : E9 = "java/lang/IllegalStateException"
      · rw [if_pos e1] at hq
        subst e1
        obtain rfl := Option.some.inj hq
        exact av_hand K X N ht hr (by decide) [⟨0, 9, 12, 13⟩] ⟨0, 9, 15, 15⟩ [⟨0, 9, 18, 30⟩] rfl (List.forall_mem_cons.mpr ⟨⟨by decide, _, lk_13, by decide⟩, (fun _ h => nomatch h)⟩) (by decide) (by decide) lk_15 (Or.inl ⟨d_L_share_15, rfl, rfl⟩) (Nat.le_of_ble_eq_true rfl) d_L_share_16 (by decide) d_L_share_17 rfl
      · rw [if_neg e1] at hq
        by_cases e2 : E9 = "java/lang/UnsupportedOperationException"
        · rw [if_pos e2] at hq
          subst e2
          obtain rfl := Option.some.inj hq
          exact av_hand K X N ht hr (by decide) [⟨0, 9, 12, 13⟩, ⟨0, 9, 15, 15⟩] ⟨0, 9, 18, 30⟩ [] rfl (List.forall_mem_cons.mpr ⟨⟨by decide, _, lk_13, by decide⟩, (List.forall_mem_cons.mpr ⟨⟨by decide, _, lk_15, by decide⟩, (fun _ h => nomatch h)⟩)⟩) (by decide) (by decide) lk_30 (Or.inl ⟨d_L_share_18, rfl, rfl⟩) (Nat.le_of_ble_eq_true rfl) d_L_share_19 (by decide) d_L_share_20 rfl
        · rw [if_neg e2] at hq
          cases hq
  · have h := h a2 u3 h9.symm
    refine av_i2l K d_L_share_7 ?_
    obtain ⟨w4, ew4, h⟩ := hp_bd h
    refine hv_wl K d_L_share_8 ew4 ?_
    refine av_goto (tgt := 21) K d_L_share_9 rfl ?_
    refine av_iconst (v := (0 : Int32)) K d_L_share_21 (by decide) ?_
    obtain rfl := Option.some.inj h
    exact av_ireturn K hr d_L_share_22 rfl
end
set_option maxRecDepth 100000 in
theorem c_L_share {l : Launch} {D : va_G} {ca : Nat → Nat} (hl : l.stackTraces = false) {fu : Nat} {v0 : Nat} {v1 : Int32} {v2 : Nat} {w : List va_E} {r : Int32 × List va_E} (h : f_L_share fu v0 v1 v2 w = some r) : av_Hi l D cl8 ca NS tabON y_L_share w_L_share rm_L_share 8 48 [.ref v0, .int v1, .ref v2] w (fun v u => (v, u) = r) :=
  av_inH (cc := b_L_share) (nL := 4) (hh := hh_L_share) (by decide +kernel) rfl (Nat.le_of_ble_eq_true rfl) (fun p e s m args below meth c A ad K G X N ht hr => v_L_share K G X N hl ht hr fu v0 v1 v2 w h)

-- FaultTreeDeskLaw.modules(LFaultTreeDesk;[J)I
abbrev b_L_modules : ByteArray := method_17_code
def y_L_modules : MethodName := ⟨"FaultTreeDeskLaw", "modules", "(LFaultTreeDesk;[J)I"⟩
def hh_L_modules : List (Nat × Nat × Nat × Nat) := [(0, 8, 11, 15)]
def w_L_modules : List Cond := Cond.codeWith y_L_modules b_L_modules 3 (some .int) hh_L_modules :: WS
set_option maxRecDepth 100000 in
theorem co_L_modules : Cond.codeWith y_L_modules b_L_modules 3 (some .int) hh_L_modules ∈ WS := ws_t (List.mem_of_getElem? (i := 615) rfl) rfl
theorem sm_L_modules : Cond.static y_L_modules ∈ WS := ws_t (List.mem_of_getElem? (i := 614) (by decide +kernel)) (by decide +kernel)
theorem ce_L_modules : y_L_modules.cls ≠ "java/lang/invoke/MethodHandle" ∧ y_L_modules.cls ≠ "java/lang/invoke/VarHandle" ∧ (parseMethodDescriptor y_L_modules.desc).map (fun d => d.parameters.length) = some 2 := by decide +kernel
theorem d_L_modules_0 : decode b_L_modules 0 = .ok (.aload_n 1, 1) := by decide +kernel
theorem d_L_modules_1 : decode b_L_modules 1 = .ok (.iconst 0, 1) := by decide +kernel
theorem d_L_modules_2 : decode b_L_modules 2 = .ok (.aload_n 0, 1) := by decide +kernel
theorem d_L_modules_3 : decode b_L_modules 3 = .ok (.invokevirtual 66, 3) := by decide +kernel
theorem d_L_modules_6 : decode b_L_modules 6 = .ok (.i2l, 1) := by decide +kernel
theorem d_L_modules_7 : decode b_L_modules 7 = .ok (.lastore, 1) := by decide +kernel
theorem d_L_modules_8 : decode b_L_modules 8 = .ok (.goto 6, 3) := by decide +kernel
theorem d_L_modules_11 : decode b_L_modules 11 = .ok (.astore_n 2, 1) := by decide +kernel
theorem d_L_modules_12 : decode b_L_modules 12 = .ok (.iconst 1, 1) := by decide +kernel
theorem d_L_modules_13 : decode b_L_modules 13 = .ok (.ireturn, 1) := by decide +kernel
theorem d_L_modules_14 : decode b_L_modules 14 = .ok (.iconst 0, 1) := by decide +kernel
theorem d_L_modules_15 : decode b_L_modules 15 = .ok (.ireturn, 1) := by decide +kernel
def rm_L_modules : Room := { frames := 8, cells := 8, slots := 48, locals := 150 }
def f_L_modules (fu : Nat) (v0 : Nat) (v1 : Nat) (w : List va_E) : Option (Int32 × List va_E) := ((hp_is w v0 6).bind fun _ => (hl_bd (f_F_modules fu v0 w) (fun E9 u9 => if E9 = "java/lang/IllegalStateException" then some ((1 : Int32), u9) else none) fun a2 u3 => ((hp_wl u3 v1 (0 : Int32) (a2).toInt64).bind fun w4 => (some ((0 : Int32), w4)))))
section
variable {p : Program} {l : Launch} {e : Env} {s : State} {m : MethodId} {args : Array Value} {below : List Frame} {meth : Method} {c : Code} {D : va_G} {ca : Nat → Nat} {A : Nat → Prop} {ad : Nat → Nat}
set_option maxRecDepth 100000 in
set_option maxHeartbeats 4000000 in
theorem v_L_modules (K : av_K p s m args meth c D cl8 ca A b_L_modules 3 R_L WS) (G : av_G NS tabON A s s.heap) (X : av_X A s s.heap) (N : av_N s) (hl : l.stackTraces = false) (ht : c.exceptionTable.toList = tableOf hh_L_modules) (hr : meth.sig.returnType = some .int) (fu : Nat) {r : Int32 × List va_E} (v0 : Nat) (v1 : Nat) (w : List va_E) (h : f_L_modules fu v0 v1 w = some r) : av_HVI p l e rm_L_modules s m args below meth c D cl8 A ad ca 3 r 0 0 0 [some (.ref v0), some (.ref v1), none] [] w := by
  unfold f_L_modules at h
  refine av_aload_n K d_L_modules_0 rfl rfl ?_
  refine av_iconst (v := (0 : Int32)) K d_L_modules_1 (by decide) ?_
  refine av_aload_n K d_L_modules_2 rfl rfl ?_
  obtain ⟨_, eo3, h⟩ := hp_bd h
  obtain ⟨fs3, ho3⟩ := hp_is_of eo3
  obtain ⟨r1, er1, lr1, h⟩ := hl_of h
  refine av_hVi K G X (c_F_modules hl er1) (cwV 0 K.2.2.2.2.1 (gV ml_L_66 im_F_modules se_F_modules in_F co_F_modules) rfl rfl rfl cd_F_modules ⟨(Nat.le_of_ble_eq_true rfl), (Nat.le_of_ble_eq_true rfl)⟩) rfl ho3 rfl rfl (Nat.le_of_ble_eq_true rfl) d_L_modules_3 ⟨(Nat.le_of_ble_eq_true rfl), (Nat.le_of_ble_eq_true rfl)⟩ (fun E9 u9 h9 => ?_) (fun a2 u3 h9 => ?_)
  · have hq := lr1 E9 u9 h9.symm
    by_cases e0 : E9 = "java/lang/IllegalStateException"
    · rw [if_pos e0] at hq
      subst e0
      obtain rfl := Option.some.inj hq
      exact av_hand K X N ht hr (by decide) [] ⟨0, 8, 11, 15⟩ [] rfl (fun _ h => nomatch h) (by decide) (by decide) lk_15 (Or.inr (Or.inl ⟨d_L_modules_11, rfl, rfl⟩)) (Nat.le_of_ble_eq_true rfl) d_L_modules_12 (by decide) d_L_modules_13 rfl
    · rw [if_neg e0] at hq
      cases hq
  · have h := h a2 u3 h9.symm
    refine av_i2l K d_L_modules_6 ?_
    obtain ⟨w4, ew4, h⟩ := hp_bd h
    refine hv_wl K d_L_modules_7 ew4 ?_
    refine av_goto (tgt := 14) K d_L_modules_8 rfl ?_
    refine av_iconst (v := (0 : Int32)) K d_L_modules_14 (by decide) ?_
    obtain rfl := Option.some.inj h
    exact av_ireturn K hr d_L_modules_15 rfl
end
set_option maxRecDepth 100000 in
theorem c_L_modules {l : Launch} {D : va_G} {ca : Nat → Nat} (hl : l.stackTraces = false) {fu : Nat} {v0 : Nat} {v1 : Nat} {w : List va_E} {r : Int32 × List va_E} (h : f_L_modules fu v0 v1 w = some r) : av_Hi l D cl8 ca NS tabON y_L_modules w_L_modules rm_L_modules 8 48 [.ref v0, .ref v1] w (fun v u => (v, u) = r) :=
  av_inH (cc := b_L_modules) (nL := 3) (hh := hh_L_modules) (by decide +kernel) rfl (Nat.le_of_ble_eq_true rfl) (fun p e s m args below meth c A ad K G X N ht hr => v_L_modules K G X N hl ht hr fu v0 v1 w h)
