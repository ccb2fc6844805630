-- FaultTreeDeskModel.thrown()I
theorem d_M_thrown_0 : decode b_M_thrown 0 = .ok (.aload_n 0, 1) := by decide +kernel
theorem d_M_thrown_1 : decode b_M_thrown 1 = .ok (.getfield 58, 3) := by decide +kernel
theorem d_M_thrown_4 : decode b_M_thrown 4 = .ok (.ireturn, 1) := by decide +kernel
def rm_M_thrown : Room := { frames := 0, cells := 0, slots := 0, locals := 0 }
def f_M_thrown (fu : Nat) (v0 : Nat) (w : List va_E) : Option (Int32 × List va_E) := ((hp_gi w v0 7 0).bind fun x1 => (some (x1, w)))
section
variable {p : Program} {l : Launch} {e : Env} {s : State} {m : MethodId} {args : Array Value} {below : List Frame} {meth : Method} {c : Code} {D : va_G} {ca : Nat → Nat} {A : Nat → Prop} {ad : Nat → Nat}
set_option maxRecDepth 100000 in
set_option maxHeartbeats 4000000 in
theorem v_M_thrown (K : av_K p s m args meth c D cl8 ca A b_M_thrown 1 R_M WS) (G : av_G NS tabON A s s.heap) (hr : meth.sig.returnType = some .int) (fu : Nat) {r : Int32 × List va_E} (v0 : Nat) (w : List va_E) (h : f_M_thrown fu v0 w = some r) : av_VI p l e rm_M_thrown s m args below meth c D cl8 A ad ca 1 r 0 [some (.ref v0)] [] w := by
  unfold f_M_thrown at h
  refine av_aload_n K d_M_thrown_0 rfl rfl ?_
  obtain ⟨x1, ex1, h⟩ := hp_bd h
  refine hv_gi K fl_M_58 d_M_thrown_1 ex1 ?_
  obtain rfl := Option.some.inj h
  exact av_ireturn K hr d_M_thrown_4 rfl
end
set_option maxRecDepth 100000 in
theorem c_M_thrown {l : Launch} {D : va_G} {ca : Nat → Nat} {tab : Nat → Int64} {fu : Nat} {v0 : Nat} {w : List va_E} {r : Int32 × List va_E} (h : f_M_thrown fu v0 w = some r) : av_Ci l D cl8 ca NS tabON y_M_thrown w_M_thrown rm_M_thrown [.ref v0] w (fun v u => (v, u) = r) :=
  av_inI (cc := b_M_thrown) (nL := 1) (by decide +kernel) rfl (Nat.le_of_ble_eq_true rfl) (fun p e s m args below meth c A ad K G hr => v_M_thrown K G hr fu v0 w h)

-- FaultTreeDeskModel.isEvent(I)Z
theorem d_M_isEvent_0 : decode b_M_isEvent 0 = .ok (.iload_n 1, 1) := by decide +kernel
theorem d_M_isEvent_1 : decode b_M_isEvent 1 = .ok (.ifCond .lt 15, 3) := by decide +kernel
theorem d_M_isEvent_4 : decode b_M_isEvent 4 = .ok (.iload_n 1, 1) := by decide +kernel
theorem d_M_isEvent_5 : decode b_M_isEvent 5 = .ok (.aload_n 0, 1) := by decide +kernel
theorem d_M_isEvent_6 : decode b_M_isEvent 6 = .ok (.getfield 61, 3) := by decide +kernel
theorem d_M_isEvent_9 : decode b_M_isEvent 9 = .ok (.if_icmp .ge 7, 3) := by decide +kernel
theorem d_M_isEvent_12 : decode b_M_isEvent 12 = .ok (.iconst 1, 1) := by decide +kernel
theorem d_M_isEvent_13 : decode b_M_isEvent 13 = .ok (.goto 4, 3) := by decide +kernel
theorem d_M_isEvent_16 : decode b_M_isEvent 16 = .ok (.iconst 0, 1) := by decide +kernel
theorem d_M_isEvent_17 : decode b_M_isEvent 17 = .ok (.ireturn, 1) := by decide +kernel
def rm_M_isEvent : Room := { frames := 0, cells := 0, slots := 0, locals := 0 }
def f_M_isEvent_17 (fu : Nat) (s0 : Int32) (w : List va_E) : Option (Int32 × List va_E) := (if s0 = 0 ∨ s0 = 1 then some (s0, w) else none)
def f_M_isEvent_16 (fu : Nat) (w : List va_E) : Option (Int32 × List va_E) := (f_M_isEvent_17 fu ((0 : Int32)) w)
def f_M_isEvent (fu : Nat) (v0 : Nat) (v1 : Int32) (w : List va_E) : Option (Int32 × List va_E) := (if v1 < 0 then (f_M_isEvent_16 fu w) else ((hp_gi w v0 7 1).bind fun x1 => (if x1 ≤ v1 then (f_M_isEvent_16 fu w) else (f_M_isEvent_17 fu ((1 : Int32)) w))))
section
variable {p : Program} {l : Launch} {e : Env} {s : State} {m : MethodId} {args : Array Value} {below : List Frame} {meth : Method} {c : Code} {D : va_G} {ca : Nat → Nat} {A : Nat → Prop} {ad : Nat → Nat}
set_option maxRecDepth 100000 in
set_option maxHeartbeats 4000000 in
theorem v_M_isEvent_17 (K : av_K p s m args meth c D cl8 ca A b_M_isEvent 2 R_M WS) (G : av_G NS tabON A s s.heap) (hr : meth.sig.returnType = some .boolean) (fu : Nat) {r : Int32 × List va_E} (s0 : Int32) (w : List va_E) (h : f_M_isEvent_17 fu s0 w = some r) : av_VI p l e rm_M_isEvent s m args below meth c D cl8 A ad ca 2 r 17 [none, none] [.int s0] w := by
  unfold f_M_isEvent_17 at h
  obtain ⟨hz, h⟩ := hp_if h
  obtain rfl := Option.some.inj h
  exact av_zreturn K hr (hp_nz hz) d_M_isEvent_17 rfl
set_option maxRecDepth 100000 in
set_option maxHeartbeats 4000000 in
theorem v_M_isEvent_16 (K : av_K p s m args meth c D cl8 ca A b_M_isEvent 2 R_M WS) (G : av_G NS tabON A s s.heap) (hr : meth.sig.returnType = some .boolean) (fu : Nat) {r : Int32 × List va_E} (w : List va_E) (h : f_M_isEvent_16 fu w = some r) : av_VI p l e rm_M_isEvent s m args below meth c D cl8 A ad ca 2 r 16 [none, none] [] w := by
  unfold f_M_isEvent_16 at h
  refine av_iconst (v := (0 : Int32)) K d_M_isEvent_16 (by decide) ?_
  exact v_M_isEvent_17 K G hr fu ((0 : Int32)) _ h
set_option maxRecDepth 100000 in
set_option maxHeartbeats 4000000 in
theorem v_M_isEvent (K : av_K p s m args meth c D cl8 ca A b_M_isEvent 2 R_M WS) (G : av_G NS tabON A s s.heap) (hr : meth.sig.returnType = some .boolean) (fu : Nat) {r : Int32 × List va_E} (v0 : Nat) (v1 : Int32) (w : List va_E) (h : f_M_isEvent fu v0 v1 w = some r) : av_VI p l e rm_M_isEvent s m args below meth c D cl8 A ad ca 2 r 0 [some (.ref v0), some (.int v1)] [] w := by
  unfold f_M_isEvent at h
  refine av_iload_n K d_M_isEvent_0 rfl rfl ?_
  refine av_if_lt (tgt := 16) K d_M_isEvent_1 rfl (fun hc => ?_) (fun hc => ?_)
  · rw [if_pos hc] at h
    refine hv_fg (L' := [none, none]) [0, 1] rfl ?_
    exact v_M_isEvent_16 K G hr fu _ h
  · rw [if_neg hc] at h
    refine av_iload_n K d_M_isEvent_4 rfl rfl ?_
    refine av_aload_n K d_M_isEvent_5 rfl rfl ?_
    obtain ⟨x1, ex1, h⟩ := hp_bd h
    refine hv_gi K fl_M_61 d_M_isEvent_6 ex1 ?_
    refine av_icmp_ge (tgt := 16) K d_M_isEvent_9 rfl (fun hc => ?_) (fun hc => ?_)
    · rw [if_pos hc] at h
      refine hv_fg (L' := [none, none]) [0, 1] rfl ?_
      exact v_M_isEvent_16 K G hr fu _ h
    · rw [if_neg hc] at h
      refine av_iconst (v := (1 : Int32)) K d_M_isEvent_12 (by decide) ?_
      refine av_goto (tgt := 17) K d_M_isEvent_13 rfl ?_
      refine hv_fg (L' := [none, none]) [0, 1] rfl ?_
      exact v_M_isEvent_17 K G hr fu ((1 : Int32)) _ h
end
set_option maxRecDepth 100000 in
theorem c_M_isEvent {l : Launch} {D : va_G} {ca : Nat → Nat} {tab : Nat → Int64} {fu : Nat} {v0 : Nat} {v1 : Int32} {w : List va_E} {r : Int32 × List va_E} (h : f_M_isEvent fu v0 v1 w = some r) : av_Ci l D cl8 ca NS tabON y_M_isEvent w_M_isEvent rm_M_isEvent [.ref v0, .int v1] w (fun v u => (v, u) = r) :=
  av_inI (cc := b_M_isEvent) (nL := 2) (by decide +kernel) rfl (Nat.le_of_ble_eq_true rfl) (fun p e s m args below meth c A ad K G hr => v_M_isEvent K G hr fu v0 v1 w h)

-- FaultTreeDeskModel.isGate(I)Z
theorem d_M_isGate_0 : decode b_M_isGate 0 = .ok (.iload_n 1, 1) := by decide +kernel
theorem d_M_isGate_1 : decode b_M_isGate 1 = .ok (.ifCond .lt 15, 3) := by decide +kernel
theorem d_M_isGate_4 : decode b_M_isGate 4 = .ok (.iload_n 1, 1) := by decide +kernel
theorem d_M_isGate_5 : decode b_M_isGate 5 = .ok (.aload_n 0, 1) := by decide +kernel
theorem d_M_isGate_6 : decode b_M_isGate 6 = .ok (.getfield 64, 3) := by decide +kernel
theorem d_M_isGate_9 : decode b_M_isGate 9 = .ok (.if_icmp .ge 7, 3) := by decide +kernel
theorem d_M_isGate_12 : decode b_M_isGate 12 = .ok (.iconst 1, 1) := by decide +kernel
theorem d_M_isGate_13 : decode b_M_isGate 13 = .ok (.goto 4, 3) := by decide +kernel
theorem d_M_isGate_16 : decode b_M_isGate 16 = .ok (.iconst 0, 1) := by decide +kernel
theorem d_M_isGate_17 : decode b_M_isGate 17 = .ok (.ireturn, 1) := by decide +kernel
def rm_M_isGate : Room := { frames := 0, cells := 0, slots := 0, locals := 0 }
def f_M_isGate_17 (fu : Nat) (s0 : Int32) (w : List va_E) : Option (Int32 × List va_E) := (if s0 = 0 ∨ s0 = 1 then some (s0, w) else none)
def f_M_isGate_16 (fu : Nat) (w : List va_E) : Option (Int32 × List va_E) := (f_M_isGate_17 fu ((0 : Int32)) w)
def f_M_isGate (fu : Nat) (v0 : Nat) (v1 : Int32) (w : List va_E) : Option (Int32 × List va_E) := (if v1 < 0 then (f_M_isGate_16 fu w) else ((hp_gi w v0 7 4).bind fun x1 => (if x1 ≤ v1 then (f_M_isGate_16 fu w) else (f_M_isGate_17 fu ((1 : Int32)) w))))
section
variable {p : Program} {l : Launch} {e : Env} {s : State} {m : MethodId} {args : Array Value} {below : List Frame} {meth : Method} {c : Code} {D : va_G} {ca : Nat → Nat} {A : Nat → Prop} {ad : Nat → Nat}
set_option maxRecDepth 100000 in
set_option maxHeartbeats 4000000 in
theorem v_M_isGate_17 (K : av_K p s m args meth c D cl8 ca A b_M_isGate 2 R_M WS) (G : av_G NS tabON A s s.heap) (hr : meth.sig.returnType = some .boolean) (fu : Nat) {r : Int32 × List va_E} (s0 : Int32) (w : List va_E) (h : f_M_isGate_17 fu s0 w = some r) : av_VI p l e rm_M_isGate s m args below meth c D cl8 A ad ca 2 r 17 [none, none] [.int s0] w := by
  unfold f_M_isGate_17 at h
  obtain ⟨hz, h⟩ := hp_if h
  obtain rfl := Option.some.inj h
  exact av_zreturn K hr (hp_nz hz) d_M_isGate_17 rfl
set_option maxRecDepth 100000 in
set_option maxHeartbeats 4000000 in
theorem v_M_isGate_16 (K : av_K p s m args meth c D cl8 ca A b_M_isGate 2 R_M WS) (G : av_G NS tabON A s s.heap) (hr : meth.sig.returnType = some .boolean) (fu : Nat) {r : Int32 × List va_E} (w : List va_E) (h : f_M_isGate_16 fu w = some r) : av_VI p l e rm_M_isGate s m args below meth c D cl8 A ad ca 2 r 16 [none, none] [] w := by
  unfold f_M_isGate_16 at h
  refine av_iconst (v := (0 : Int32)) K d_M_isGate_16 (by decide) ?_
  exact v_M_isGate_17 K G hr fu ((0 : Int32)) _ h
set_option maxRecDepth 100000 in
set_option maxHeartbeats 4000000 in
theorem v_M_isGate (K : av_K p s m args meth c D cl8 ca A b_M_isGate 2 R_M WS) (G : av_G NS tabON A s s.heap) (hr : meth.sig.returnType = some .boolean) (fu : Nat) {r : Int32 × List va_E} (v0 : Nat) (v1 : Int32) (w : List va_E) (h : f_M_isGate fu v0 v1 w = some r) : av_VI p l e rm_M_isGate s m args below meth c D cl8 A ad ca 2 r 0 [some (.ref v0), some (.int v1)] [] w := by
  unfold f_M_isGate at h
  refine av_iload_n K d_M_isGate_0 rfl rfl ?_
  refine av_if_lt (tgt := 16) K d_M_isGate_1 rfl (fun hc => ?_) (fun hc => ?_)
  · rw [if_pos hc] at h
    refine hv_fg (L' := [none, none]) [0, 1] rfl ?_
    exact v_M_isGate_16 K G hr fu _ h
  · rw [if_neg hc] at h
    refine av_iload_n K d_M_isGate_4 rfl rfl ?_
    refine av_aload_n K d_M_isGate_5 rfl rfl ?_
    obtain ⟨x1, ex1, h⟩ := hp_bd h
    refine hv_gi K fl_M_64 d_M_isGate_6 ex1 ?_
    refine av_icmp_ge (tgt := 16) K d_M_isGate_9 rfl (fun hc => ?_) (fun hc => ?_)
    · rw [if_pos hc] at h
      refine hv_fg (L' := [none, none]) [0, 1] rfl ?_
      exact v_M_isGate_16 K G hr fu _ h
    · rw [if_neg hc] at h
      refine av_iconst (v := (1 : Int32)) K d_M_isGate_12 (by decide) ?_
      refine av_goto (tgt := 17) K d_M_isGate_13 rfl ?_
      refine hv_fg (L' := [none, none]) [0, 1] rfl ?_
      exact v_M_isGate_17 K G hr fu ((1 : Int32)) _ h
end
set_option maxRecDepth 100000 in
theorem c_M_isGate {l : Launch} {D : va_G} {ca : Nat → Nat} {tab : Nat → Int64} {fu : Nat} {v0 : Nat} {v1 : Int32} {w : List va_E} {r : Int32 × List va_E} (h : f_M_isGate fu v0 v1 w = some r) : av_Ci l D cl8 ca NS tabON y_M_isGate w_M_isGate rm_M_isGate [.ref v0, .int v1] w (fun v u => (v, u) = r) :=
  av_inI (cc := b_M_isGate) (nL := 2) (by decide +kernel) rfl (Nat.le_of_ble_eq_true rfl) (fun p e s m args below meth c A ad K G hr => v_M_isGate K G hr fu v0 v1 w h)

-- FaultTreeDeskModel.event(I)I
theorem d_M_event_0 : decode b_M_event 0 = .ok (.aload_n 0, 1) := by decide +kernel
theorem d_M_event_1 : decode b_M_event 1 = .ok (.iload_n 1, 1) := by decide +kernel
theorem d_M_event_2 : decode b_M_event 2 = .ok (.ifCond .lt 9, 3) := by decide +kernel
theorem d_M_event_5 : decode b_M_event 5 = .ok (.iload_n 1, 1) := by decide +kernel
theorem d_M_event_6 : decode b_M_event 6 = .ok (.bipush 16, 2) := by decide +kernel
theorem d_M_event_8 : decode b_M_event 8 = .ok (.if_icmp .le 7, 3) := by decide +kernel
theorem d_M_event_11 : decode b_M_event 11 = .ok (.iconst 1, 1) := by decide +kernel
theorem d_M_event_12 : decode b_M_event 12 = .ok (.goto 17, 3) := by decide +kernel
theorem d_M_event_15 : decode b_M_event 15 = .ok (.aload_n 0, 1) := by decide +kernel
theorem d_M_event_16 : decode b_M_event 16 = .ok (.getfield 61, 3) := by decide +kernel
theorem d_M_event_19 : decode b_M_event 19 = .ok (.bipush 10, 2) := by decide +kernel
theorem d_M_event_21 : decode b_M_event 21 = .ok (.if_icmp .ne 7, 3) := by decide +kernel
theorem d_M_event_24 : decode b_M_event 24 = .ok (.iconst 2, 1) := by decide +kernel
theorem d_M_event_25 : decode b_M_event 25 = .ok (.goto 4, 3) := by decide +kernel
theorem d_M_event_28 : decode b_M_event 28 = .ok (.iconst 0, 1) := by decide +kernel
theorem d_M_event_29 : decode b_M_event 29 = .ok (.putfield 58, 3) := by decide +kernel
theorem d_M_event_32 : decode b_M_event 32 = .ok (.aload_n 0, 1) := by decide +kernel
theorem d_M_event_33 : decode b_M_event 33 = .ok (.getfield 58, 3) := by decide +kernel
theorem d_M_event_36 : decode b_M_event 36 = .ok (.ifCond .le 5, 3) := by decide +kernel
theorem d_M_event_39 : decode b_M_event 39 = .ok (.iconst 0, 1) := by decide +kernel
theorem d_M_event_40 : decode b_M_event 40 = .ok (.ireturn, 1) := by decide +kernel
theorem d_M_event_41 : decode b_M_event 41 = .ok (.aload_n 0, 1) := by decide +kernel
theorem d_M_event_42 : decode b_M_event 42 = .ok (.getfield 7, 3) := by decide +kernel
theorem d_M_event_45 : decode b_M_event 45 = .ok (.aload_n 0, 1) := by decide +kernel
theorem d_M_event_46 : decode b_M_event 46 = .ok (.getfield 61, 3) := by decide +kernel
theorem d_M_event_49 : decode b_M_event 49 = .ok (.iload_n 1, 1) := by decide +kernel
theorem d_M_event_50 : decode b_M_event 50 = .ok (.iastore, 1) := by decide +kernel
theorem d_M_event_51 : decode b_M_event 51 = .ok (.aload_n 0, 1) := by decide +kernel
theorem d_M_event_52 : decode b_M_event 52 = .ok (.getfield 13, 3) := by decide +kernel
theorem d_M_event_55 : decode b_M_event 55 = .ok (.aload_n 0, 1) := by decide +kernel
theorem d_M_event_56 : decode b_M_event 56 = .ok (.getfield 61, 3) := by decide +kernel
theorem d_M_event_59 : decode b_M_event 59 = .ok (.iconst 0, 1) := by decide +kernel
theorem d_M_event_60 : decode b_M_event 60 = .ok (.iastore, 1) := by decide +kernel
theorem d_M_event_61 : decode b_M_event 61 = .ok (.aload_n 0, 1) := by decide +kernel
theorem d_M_event_62 : decode b_M_event 62 = .ok (.dup, 1) := by decide +kernel
theorem d_M_event_63 : decode b_M_event 63 = .ok (.getfield 61, 3) := by decide +kernel
theorem d_M_event_66 : decode b_M_event 66 = .ok (.iconst 1, 1) := by decide +kernel
theorem d_M_event_67 : decode b_M_event 67 = .ok (.iadd, 1) := by decide +kernel
theorem d_M_event_68 : decode b_M_event 68 = .ok (.putfield 61, 3) := by decide +kernel
theorem d_M_event_71 : decode b_M_event 71 = .ok (.aload_n 0, 1) := by decide +kernel
theorem d_M_event_72 : decode b_M_event 72 = .ok (.getfield 61, 3) := by decide +kernel
theorem d_M_event_75 : decode b_M_event 75 = .ok (.iconst 1, 1) := by decide +kernel
theorem d_M_event_76 : decode b_M_event 76 = .ok (.isub, 1) := by decide +kernel
theorem d_M_event_77 : decode b_M_event 77 = .ok (.ireturn, 1) := by decide +kernel
def rm_M_event : Room := { frames := 0, cells := 0, slots := 0, locals := 0 }
def f_M_event_29 (fu : Nat) (v0 : Nat) (v1 : Int32) (s0 : Nat) (s1 : Int32) (w : List va_E) : Option (Int32 × List va_E) := ((hp_pi w s0 7 0 s1).bind fun w1 => ((hp_gi w1 v0 7 0).bind fun x2 => (if x2 ≤ 0 then ((hp_gr w1 v0 7 2).bind fun q3 => ((hp_gi w1 v0 7 1).bind fun x4 => ((hp_wi w1 q3 x4 v1).bind fun w5 => ((hp_gr w5 v0 7 3).bind fun q6 => ((hp_gi w5 v0 7 1).bind fun x7 => ((hp_wi w5 q6 x7 (0 : Int32)).bind fun w8 => ((hp_gi w8 v0 7 1).bind fun x9 => ((hp_pi w8 v0 7 1 (x9 + (1 : Int32))).bind fun w10 => ((hp_gi w10 v0 7 1).bind fun x11 => (some ((x11 - (1 : Int32)), w10))))))))))) else (some ((0 : Int32), w1)))))
def f_M_event_11 (fu : Nat) (v0 : Nat) (v1 : Int32) (s0 : Nat) (w : List va_E) : Option (Int32 × List va_E) := (f_M_event_29 fu (v0) (v1) (s0) ((1 : Int32)) w)
def f_M_event (fu : Nat) (v0 : Nat) (v1 : Int32) (w : List va_E) : Option (Int32 × List va_E) := (if v1 < 0 then (f_M_event_11 fu (v0) (v1) (v0) w) else (if v1 ≤ (16 : Int32) then ((hp_gi w v0 7 1).bind fun x1 => (if x1 = (10 : Int32) then (f_M_event_29 fu (v0) (v1) (v0) ((2 : Int32)) w) else (f_M_event_29 fu (v0) (v1) (v0) ((0 : Int32)) w))) else (f_M_event_11 fu (v0) (v1) (v0) w)))
section
variable {p : Program} {l : Launch} {e : Env} {s : State} {m : MethodId} {args : Array Value} {below : List Frame} {meth : Method} {c : Code} {D : va_G} {ca : Nat → Nat} {A : Nat → Prop} {ad : Nat → Nat}
set_option maxRecDepth 100000 in
set_option maxHeartbeats 4000000 in
theorem v_M_event_29 (K : av_K p s m args meth c D cl8 ca A b_M_event 2 R_M WS) (G : av_G NS tabON A s s.heap) (hr : meth.sig.returnType = some .int) (fu : Nat) {r : Int32 × List va_E} (v0 : Nat) (v1 : Int32) (s0 : Nat) (s1 : Int32) (w : List va_E) (h : f_M_event_29 fu v0 v1 s0 s1 w = some r) : av_VI p l e rm_M_event s m args below meth c D cl8 A ad ca 2 r 29 [some (.ref v0), some (.int v1)] [.int s1, .ref s0] w := by
  unfold f_M_event_29 at h
  obtain ⟨w1, ew1, h⟩ := hp_bd h
  refine hv_pi K fp_M_58 d_M_event_29 ew1 ?_
  refine av_aload_n K d_M_event_32 rfl rfl ?_
  obtain ⟨x2, ex2, h⟩ := hp_bd h
  refine hv_gi K fl_M_58 d_M_event_33 ex2 ?_
  refine av_if_le (tgt := 41) K d_M_event_36 rfl (fun hc => ?_) (fun hc => ?_)
  · rw [if_pos hc] at h
    refine av_aload_n K d_M_event_41 rfl rfl ?_
    obtain ⟨q3, eq3, h⟩ := hp_bd h
    refine hv_gr K fl_M_7 d_M_event_42 eq3 ?_
    refine av_aload_n K d_M_event_45 rfl rfl ?_
    obtain ⟨x4, ex4, h⟩ := hp_bd h
    refine hv_gi K fl_M_61 d_M_event_46 ex4 ?_
    refine av_iload_n K d_M_event_49 rfl rfl ?_
    obtain ⟨w5, ew5, h⟩ := hp_bd h
    refine hv_wi K d_M_event_50 ew5 ?_
    refine av_aload_n K d_M_event_51 rfl rfl ?_
    obtain ⟨q6, eq6, h⟩ := hp_bd h
    refine hv_gr K fl_M_13 d_M_event_52 eq6 ?_
    refine av_aload_n K d_M_event_55 rfl rfl ?_
    obtain ⟨x7, ex7, h⟩ := hp_bd h
    refine hv_gi K fl_M_61 d_M_event_56 ex7 ?_
    refine av_iconst (v := (0 : Int32)) K d_M_event_59 (by decide) ?_
    obtain ⟨w8, ew8, h⟩ := hp_bd h
    refine hv_wi K d_M_event_60 ew8 ?_
    refine av_aload_n K d_M_event_61 rfl rfl ?_
    refine av_dup K d_M_event_62 rfl ?_
    obtain ⟨x9, ex9, h⟩ := hp_bd h
    refine hv_gi K fl_M_61 d_M_event_63 ex9 ?_
    refine av_iconst (v := (1 : Int32)) K d_M_event_66 (by decide) ?_
    refine av_iadd K d_M_event_67 ?_
    obtain ⟨w10, ew10, h⟩ := hp_bd h
    refine hv_pi K fp_M_61 d_M_event_68 ew10 ?_
    refine av_aload_n K d_M_event_71 rfl rfl ?_
    obtain ⟨x11, ex11, h⟩ := hp_bd h
    refine hv_gi K fl_M_61 d_M_event_72 ex11 ?_
    refine av_iconst (v := (1 : Int32)) K d_M_event_75 (by decide) ?_
    refine av_isub K d_M_event_76 ?_
    obtain rfl := Option.some.inj h
    exact av_ireturn K hr d_M_event_77 rfl
  · rw [if_neg hc] at h
    refine av_iconst (v := (0 : Int32)) K d_M_event_39 (by decide) ?_
    obtain rfl := Option.some.inj h
    exact av_ireturn K hr d_M_event_40 rfl
set_option maxRecDepth 100000 in
set_option maxHeartbeats 4000000 in
theorem v_M_event_11 (K : av_K p s m args meth c D cl8 ca A b_M_event 2 R_M WS) (G : av_G NS tabON A s s.heap) (hr : meth.sig.returnType = some .int) (fu : Nat) {r : Int32 × List va_E} (v0 : Nat) (v1 : Int32) (s0 : Nat) (w : List va_E) (h : f_M_event_11 fu v0 v1 s0 w = some r) : av_VI p l e rm_M_event s m args below meth c D cl8 A ad ca 2 r 11 [some (.ref v0), some (.int v1)] [.ref s0] w := by
  unfold f_M_event_11 at h
  refine av_iconst (v := (1 : Int32)) K d_M_event_11 (by decide) ?_
  refine av_goto (tgt := 29) K d_M_event_12 rfl ?_
  exact v_M_event_29 K G hr fu (v0) (v1) (s0) ((1 : Int32)) _ h
set_option maxRecDepth 100000 in
set_option maxHeartbeats 4000000 in
theorem v_M_event (K : av_K p s m args meth c D cl8 ca A b_M_event 2 R_M WS) (G : av_G NS tabON A s s.heap) (hr : meth.sig.returnType = some .int) (fu : Nat) {r : Int32 × List va_E} (v0 : Nat) (v1 : Int32) (w : List va_E) (h : f_M_event fu v0 v1 w = some r) : av_VI p l e rm_M_event s m args below meth c D cl8 A ad ca 2 r 0 [some (.ref v0), some (.int v1)] [] w := by
  unfold f_M_event at h
  refine av_aload_n K d_M_event_0 rfl rfl ?_
  refine av_iload_n K d_M_event_1 rfl rfl ?_
  refine av_if_lt (tgt := 11) K d_M_event_2 rfl (fun hc => ?_) (fun hc => ?_)
  · rw [if_pos hc] at h
    exact v_M_event_11 K G hr fu (v0) (v1) (v0) _ h
  · rw [if_neg hc] at h
    refine av_iload_n K d_M_event_5 rfl rfl ?_
    refine av_bipush (v := (16 : Int32)) K d_M_event_6 (by decide) ?_
    refine av_icmp_le (tgt := 15) K d_M_event_8 rfl (fun hc => ?_) (fun hc => ?_)
    · rw [if_pos hc] at h
      refine av_aload_n K d_M_event_15 rfl rfl ?_
      obtain ⟨x1, ex1, h⟩ := hp_bd h
      refine hv_gi K fl_M_61 d_M_event_16 ex1 ?_
      refine av_bipush (v := (10 : Int32)) K d_M_event_19 (by decide) ?_
      refine av_icmp_ne (tgt := 28) K d_M_event_21 rfl (fun hc => ?_) (fun hc => ?_)
      · rw [if_neg hc] at h
        refine av_iconst (v := (0 : Int32)) K d_M_event_28 (by decide) ?_
        exact v_M_event_29 K G hr fu (v0) (v1) (v0) ((0 : Int32)) _ h
      · rw [if_pos hc] at h
        refine av_iconst (v := (2 : Int32)) K d_M_event_24 (by decide) ?_
        refine av_goto (tgt := 29) K d_M_event_25 rfl ?_
        exact v_M_event_29 K G hr fu (v0) (v1) (v0) ((2 : Int32)) _ h
    · rw [if_neg hc] at h
      exact v_M_event_11 K G hr fu (v0) (v1) (v0) _ h
end
set_option maxRecDepth 100000 in
theorem c_M_event {l : Launch} {D : va_G} {ca : Nat → Nat} {tab : Nat → Int64} {fu : Nat} {v0 : Nat} {v1 : Int32} {w : List va_E} {r : Int32 × List va_E} (h : f_M_event fu v0 v1 w = some r) : av_Ci l D cl8 ca NS tabON y_M_event w_M_event rm_M_event [.ref v0, .int v1] w (fun v u => (v, u) = r) :=
  av_inI (cc := b_M_event) (nL := 2) (by decide +kernel) rfl (Nat.le_of_ble_eq_true rfl) (fun p e s m args below meth c A ad K G hr => v_M_event K G hr fu v0 v1 w h)

-- FaultTreeDeskModel.chance(II)I
theorem d_M_chance_0 : decode b_M_chance 0 = .ok (.aload_n 0, 1) := by decide +kernel
theorem d_M_chance_1 : decode b_M_chance 1 = .ok (.aload_n 0, 1) := by decide +kernel
theorem d_M_chance_2 : decode b_M_chance 2 = .ok (.iload_n 1, 1) := by decide +kernel
theorem d_M_chance_3 : decode b_M_chance 3 = .ok (.invokevirtual 67, 3) := by decide +kernel
theorem d_M_chance_6 : decode b_M_chance 6 = .ok (.ifCond .eq 13, 3) := by decide +kernel
theorem d_M_chance_9 : decode b_M_chance 9 = .ok (.iload_n 2, 1) := by decide +kernel
theorem d_M_chance_10 : decode b_M_chance 10 = .ok (.ifCond .lt 9, 3) := by decide +kernel
theorem d_M_chance_13 : decode b_M_chance 13 = .ok (.iload_n 2, 1) := by decide +kernel
theorem d_M_chance_14 : decode b_M_chance 14 = .ok (.bipush 16, 2) := by decide +kernel
theorem d_M_chance_16 : decode b_M_chance 16 = .ok (.if_icmp .le 7, 3) := by decide +kernel
theorem d_M_chance_19 : decode b_M_chance 19 = .ok (.iconst 1, 1) := by decide +kernel
theorem d_M_chance_20 : decode b_M_chance 20 = .ok (.goto 4, 3) := by decide +kernel
theorem d_M_chance_23 : decode b_M_chance 23 = .ok (.iconst 0, 1) := by decide +kernel
theorem d_M_chance_24 : decode b_M_chance 24 = .ok (.putfield 58, 3) := by decide +kernel
theorem d_M_chance_27 : decode b_M_chance 27 = .ok (.aload_n 0, 1) := by decide +kernel
theorem d_M_chance_28 : decode b_M_chance 28 = .ok (.getfield 58, 3) := by decide +kernel
theorem d_M_chance_31 : decode b_M_chance 31 = .ok (.ifCond .le 5, 3) := by decide +kernel
theorem d_M_chance_34 : decode b_M_chance 34 = .ok (.iconst 0, 1) := by decide +kernel
theorem d_M_chance_35 : decode b_M_chance 35 = .ok (.ireturn, 1) := by decide +kernel
theorem d_M_chance_36 : decode b_M_chance 36 = .ok (.aload_n 0, 1) := by decide +kernel
theorem d_M_chance_37 : decode b_M_chance 37 = .ok (.getfield 7, 3) := by decide +kernel
theorem d_M_chance_40 : decode b_M_chance 40 = .ok (.iload_n 1, 1) := by decide +kernel
theorem d_M_chance_41 : decode b_M_chance 41 = .ok (.iaload, 1) := by decide +kernel
theorem d_M_chance_42 : decode b_M_chance 42 = .ok (.istore_n 3, 1) := by decide +kernel
theorem d_M_chance_43 : decode b_M_chance 43 = .ok (.aload_n 0, 1) := by decide +kernel
theorem d_M_chance_44 : decode b_M_chance 44 = .ok (.getfield 7, 3) := by decide +kernel
theorem d_M_chance_47 : decode b_M_chance 47 = .ok (.iload_n 1, 1) := by decide +kernel
theorem d_M_chance_48 : decode b_M_chance 48 = .ok (.iload_n 2, 1) := by decide +kernel
theorem d_M_chance_49 : decode b_M_chance 49 = .ok (.iastore, 1) := by decide +kernel
theorem d_M_chance_50 : decode b_M_chance 50 = .ok (.iload_n 3, 1) := by decide +kernel
theorem d_M_chance_51 : decode b_M_chance 51 = .ok (.ireturn, 1) := by decide +kernel
def rm_M_chance : Room := { frames := 1, cells := 0, slots := 0, locals := 21 }
def f_M_chance_24 (fu : Nat) (v0 : Nat) (v1 : Int32) (v2 : Int32) (s0 : Nat) (s1 : Int32) (w : List va_E) : Option (Int32 × List va_E) := ((hp_pi w s0 7 0 s1).bind fun w1 => ((hp_gi w1 v0 7 0).bind fun x2 => (if x2 ≤ 0 then ((hp_gr w1 v0 7 2).bind fun q3 => ((hp_ri w1 q3 v1).bind fun x4 => ((hp_gr w1 v0 7 2).bind fun q5 => ((hp_wi w1 q5 v1 v2).bind fun w6 => (some (x4, w6)))))) else (some ((0 : Int32), w1)))))
def f_M_chance_19 (fu : Nat) (v0 : Nat) (v1 : Int32) (v2 : Int32) (s0 : Nat) (w : List va_E) : Option (Int32 × List va_E) := (f_M_chance_24 fu (v0) (v1) (v2) (s0) ((1 : Int32)) w)
def f_M_chance (fu : Nat) (v0 : Nat) (v1 : Int32) (v2 : Int32) (w : List va_E) : Option (Int32 × List va_E) := ((hp_is w v0 7).bind fun _ => ((f_M_isEvent fu v0 v1 w).bind fun r1 => (if r1.1 = 0 then (f_M_chance_19 fu (v0) (v1) (v2) (v0) r1.2) else (if v2 < 0 then (f_M_chance_19 fu (v0) (v1) (v2) (v0) r1.2) else (if v2 ≤ (16 : Int32) then (f_M_chance_24 fu (v0) (v1) (v2) (v0) ((0 : Int32)) r1.2) else (f_M_chance_19 fu (v0) (v1) (v2) (v0) r1.2))))))
section
variable {p : Program} {l : Launch} {e : Env} {s : State} {m : MethodId} {args : Array Value} {below : List Frame} {meth : Method} {c : Code} {D : va_G} {ca : Nat → Nat} {A : Nat → Prop} {ad : Nat → Nat}
set_option maxRecDepth 100000 in
set_option maxHeartbeats 4000000 in
theorem v_M_chance_24 (K : av_K p s m args meth c D cl8 ca A b_M_chance 4 R_M WS) (G : av_G NS tabON A s s.heap) (hr : meth.sig.returnType = some .int) (fu : Nat) {r : Int32 × List va_E} (v0 : Nat) (v1 : Int32) (v2 : Int32) (s0 : Nat) (s1 : Int32) (w : List va_E) (h : f_M_chance_24 fu v0 v1 v2 s0 s1 w = some r) : av_VI p l e rm_M_chance s m args below meth c D cl8 A ad ca 4 r 24 [some (.ref v0), some (.int v1), some (.int v2), none] [.int s1, .ref s0] w := by
  unfold f_M_chance_24 at h
  obtain ⟨w1, ew1, h⟩ := hp_bd h
  refine hv_pi K fp_M_58 d_M_chance_24 ew1 ?_
  refine av_aload_n K d_M_chance_27 rfl rfl ?_
  obtain ⟨x2, ex2, h⟩ := hp_bd h
  refine hv_gi K fl_M_58 d_M_chance_28 ex2 ?_
  refine av_if_le (tgt := 36) K d_M_chance_31 rfl (fun hc => ?_) (fun hc => ?_)
  · rw [if_pos hc] at h
    refine av_aload_n K d_M_chance_36 rfl rfl ?_
    obtain ⟨q3, eq3, h⟩ := hp_bd h
    refine hv_gr K fl_M_7 d_M_chance_37 eq3 ?_
    refine av_iload_n K d_M_chance_40 rfl rfl ?_
    obtain ⟨x4, ex4, h⟩ := hp_bd h
    refine hv_ri K d_M_chance_41 ex4 ?_
    refine av_istore_n (L' := [some (.ref v0), some (.int v1), some (.int v2), some (.int x4)]) K d_M_chance_42 rfl (Nat.le_of_ble_eq_true rfl) rfl ?_
    refine av_aload_n K d_M_chance_43 rfl rfl ?_
    obtain ⟨q5, eq5, h⟩ := hp_bd h
    refine hv_gr K fl_M_7 d_M_chance_44 eq5 ?_
    refine av_iload_n K d_M_chance_47 rfl rfl ?_
    refine av_iload_n K d_M_chance_48 rfl rfl ?_
    obtain ⟨w6, ew6, h⟩ := hp_bd h
    refine hv_wi K d_M_chance_49 ew6 ?_
    refine av_iload_n K d_M_chance_50 rfl rfl ?_
    obtain rfl := Option.some.inj h
    exact av_ireturn K hr d_M_chance_51 rfl
  · rw [if_neg hc] at h
    refine av_iconst (v := (0 : Int32)) K d_M_chance_34 (by decide) ?_
    obtain rfl := Option.some.inj h
    exact av_ireturn K hr d_M_chance_35 rfl
set_option maxRecDepth 100000 in
set_option maxHeartbeats 4000000 in
theorem v_M_chance_19 (K : av_K p s m args meth c D cl8 ca A b_M_chance 4 R_M WS) (G : av_G NS tabON A s s.heap) (hr : meth.sig.returnType = some .int) (fu : Nat) {r : Int32 × List va_E} (v0 : Nat) (v1 : Int32) (v2 : Int32) (s0 : Nat) (w : List va_E) (h : f_M_chance_19 fu v0 v1 v2 s0 w = some r) : av_VI p l e rm_M_chance s m args below meth c D cl8 A ad ca 4 r 19 [some (.ref v0), some (.int v1), some (.int v2), none] [.ref s0] w := by
  unfold f_M_chance_19 at h
  refine av_iconst (v := (1 : Int32)) K d_M_chance_19 (by decide) ?_
  refine av_goto (tgt := 24) K d_M_chance_20 rfl ?_
  exact v_M_chance_24 K G hr fu (v0) (v1) (v2) (s0) ((1 : Int32)) _ h
set_option maxRecDepth 100000 in
set_option maxHeartbeats 4000000 in
theorem v_M_chance (K : av_K p s m args meth c D cl8 ca A b_M_chance 4 R_M WS) (G : av_G NS tabON A s s.heap) (hr : meth.sig.returnType = some .int) (fu : Nat) {r : Int32 × List va_E} (v0 : Nat) (v1 : Int32) (v2 : Int32) (w : List va_E) (h : f_M_chance fu v0 v1 v2 w = some r) : av_VI p l e rm_M_chance s m args below meth c D cl8 A ad ca 4 r 0 [some (.ref v0), some (.int v1), some (.int v2), none] [] w := by
  unfold f_M_chance at h
  refine av_aload_n K d_M_chance_0 rfl rfl ?_
  refine av_aload_n K d_M_chance_1 rfl rfl ?_
  refine av_iload_n K d_M_chance_2 rfl rfl ?_
  obtain ⟨_, eo3, h⟩ := hp_bd h
  obtain ⟨r1, er1, h⟩ := hp_bd h
  obtain ⟨fs3, ho3⟩ := hp_is_of eo3
  refine av_cVi K G (c_M_isEvent (tab := tabON) er1) (cwV 1 K.2.2.2.2.1 (gV ml_M_67 im_M_isEvent se_M_isEvent in_M co_M_isEvent) rfl rfl rfl cd_M_isEvent ⟨Nat.le_of_ble_eq_true rfl, Nat.le_of_ble_eq_true rfl⟩) rfl ho3 rfl rfl (Nat.le_of_ble_eq_true rfl) d_M_chance_3 ⟨Nat.zero_le _, Nat.zero_le _⟩ (fun a9 u9 h9 => ?_)
  obtain ⟨rfl, rfl⟩ : a9 = r1.1 ∧ u9 = r1.2 := ⟨congrArg Prod.fst h9, congrArg Prod.snd h9⟩
  refine av_if_eq (tgt := 19) K d_M_chance_6 rfl (fun hc => ?_) (fun hc => ?_)
  · rw [if_pos hc] at h
    exact v_M_chance_19 K G hr fu (v0) (v1) (v2) (v0) _ h
  · rw [if_neg hc] at h
    refine av_iload_n K d_M_chance_9 rfl rfl ?_
    refine av_if_lt (tgt := 19) K d_M_chance_10 rfl (fun hc => ?_) (fun hc => ?_)
    · rw [if_pos hc] at h
      exact v_M_chance_19 K G hr fu (v0) (v1) (v2) (v0) _ h
    · rw [if_neg hc] at h
      refine av_iload_n K d_M_chance_13 rfl rfl ?_
      refine av_bipush (v := (16 : Int32)) K d_M_chance_14 (by decide) ?_
      refine av_icmp_le (tgt := 23) K d_M_chance_16 rfl (fun hc => ?_) (fun hc => ?_)
      · rw [if_pos hc] at h
        refine av_iconst (v := (0 : Int32)) K d_M_chance_23 (by decide) ?_
        exact v_M_chance_24 K G hr fu (v0) (v1) (v2) (v0) ((0 : Int32)) _ h
      · rw [if_neg hc] at h
        exact v_M_chance_19 K G hr fu (v0) (v1) (v2) (v0) _ h
end
set_option maxRecDepth 100000 in
theorem c_M_chance {l : Launch} {D : va_G} {ca : Nat → Nat} {tab : Nat → Int64} {fu : Nat} {v0 : Nat} {v1 : Int32} {v2 : Int32} {w : List va_E} {r : Int32 × List va_E} (h : f_M_chance fu v0 v1 v2 w = some r) : av_Ci l D cl8 ca NS tabON y_M_chance w_M_chance rm_M_chance [.ref v0, .int v1, .int v2] w (fun v u => (v, u) = r) :=
  av_inI (cc := b_M_chance) (nL := 4) (by decide +kernel) rfl (Nat.le_of_ble_eq_true rfl) (fun p e s m args below meth c A ad K G hr => v_M_chance K G hr fu v0 v1 v2 w h)

-- FaultTreeDeskModel.hold(II)I
theorem d_M_hold_0 : decode b_M_hold 0 = .ok (.aload_n 0, 1) := by decide +kernel
theorem d_M_hold_1 : decode b_M_hold 1 = .ok (.aload_n 0, 1) := by decide +kernel
theorem d_M_hold_2 : decode b_M_hold 2 = .ok (.iload_n 1, 1) := by decide +kernel
theorem d_M_hold_3 : decode b_M_hold 3 = .ok (.invokevirtual 67, 3) := by decide +kernel
theorem d_M_hold_6 : decode b_M_hold 6 = .ok (.ifCond .eq 12, 3) := by decide +kernel
theorem d_M_hold_9 : decode b_M_hold 9 = .ok (.iload_n 2, 1) := by decide +kernel
theorem d_M_hold_10 : decode b_M_hold 10 = .ok (.ifCond .lt 8, 3) := by decide +kernel
theorem d_M_hold_13 : decode b_M_hold 13 = .ok (.iload_n 2, 1) := by decide +kernel
theorem d_M_hold_14 : decode b_M_hold 14 = .ok (.iconst 2, 1) := by decide +kernel
theorem d_M_hold_15 : decode b_M_hold 15 = .ok (.if_icmp .le 7, 3) := by decide +kernel
theorem d_M_hold_18 : decode b_M_hold 18 = .ok (.iconst 1, 1) := by decide +kernel
theorem d_M_hold_19 : decode b_M_hold 19 = .ok (.goto 4, 3) := by decide +kernel
theorem d_M_hold_22 : decode b_M_hold 22 = .ok (.iconst 0, 1) := by decide +kernel
theorem d_M_hold_23 : decode b_M_hold 23 = .ok (.putfield 58, 3) := by decide +kernel
theorem d_M_hold_26 : decode b_M_hold 26 = .ok (.aload_n 0, 1) := by decide +kernel
theorem d_M_hold_27 : decode b_M_hold 27 = .ok (.getfield 58, 3) := by decide +kernel
theorem d_M_hold_30 : decode b_M_hold 30 = .ok (.ifCond .le 5, 3) := by decide +kernel
theorem d_M_hold_33 : decode b_M_hold 33 = .ok (.iconst 0, 1) := by decide +kernel
theorem d_M_hold_34 : decode b_M_hold 34 = .ok (.ireturn, 1) := by decide +kernel
theorem d_M_hold_35 : decode b_M_hold 35 = .ok (.aload_n 0, 1) := by decide +kernel
theorem d_M_hold_36 : decode b_M_hold 36 = .ok (.getfield 13, 3) := by decide +kernel
theorem d_M_hold_39 : decode b_M_hold 39 = .ok (.iload_n 1, 1) := by decide +kernel
theorem d_M_hold_40 : decode b_M_hold 40 = .ok (.iaload, 1) := by decide +kernel
theorem d_M_hold_41 : decode b_M_hold 41 = .ok (.istore_n 3, 1) := by decide +kernel
theorem d_M_hold_42 : decode b_M_hold 42 = .ok (.aload_n 0, 1) := by decide +kernel
theorem d_M_hold_43 : decode b_M_hold 43 = .ok (.getfield 13, 3) := by decide +kernel
theorem d_M_hold_46 : decode b_M_hold 46 = .ok (.iload_n 1, 1) := by decide +kernel
theorem d_M_hold_47 : decode b_M_hold 47 = .ok (.iload_n 2, 1) := by decide +kernel
theorem d_M_hold_48 : decode b_M_hold 48 = .ok (.iastore, 1) := by decide +kernel
theorem d_M_hold_49 : decode b_M_hold 49 = .ok (.iload_n 3, 1) := by decide +kernel
theorem d_M_hold_50 : decode b_M_hold 50 = .ok (.ireturn, 1) := by decide +kernel
def rm_M_hold : Room := { frames := 1, cells := 0, slots := 0, locals := 21 }
def f_M_hold_23 (fu : Nat) (v0 : Nat) (v1 : Int32) (v2 : Int32) (s0 : Nat) (s1 : Int32) (w : List va_E) : Option (Int32 × List va_E) := ((hp_pi w s0 7 0 s1).bind fun w1 => ((hp_gi w1 v0 7 0).bind fun x2 => (if x2 ≤ 0 then ((hp_gr w1 v0 7 3).bind fun q3 => ((hp_ri w1 q3 v1).bind fun x4 => ((hp_gr w1 v0 7 3).bind fun q5 => ((hp_wi w1 q5 v1 v2).bind fun w6 => (some (x4, w6)))))) else (some ((0 : Int32), w1)))))
def f_M_hold_18 (fu : Nat) (v0 : Nat) (v1 : Int32) (v2 : Int32) (s0 : Nat) (w : List va_E) : Option (Int32 × List va_E) := (f_M_hold_23 fu (v0) (v1) (v2) (s0) ((1 : Int32)) w)
def f_M_hold (fu : Nat) (v0 : Nat) (v1 : Int32) (v2 : Int32) (w : List va_E) : Option (Int32 × List va_E) := ((hp_is w v0 7).bind fun _ => ((f_M_isEvent fu v0 v1 w).bind fun r1 => (if r1.1 = 0 then (f_M_hold_18 fu (v0) (v1) (v2) (v0) r1.2) else (if v2 < 0 then (f_M_hold_18 fu (v0) (v1) (v2) (v0) r1.2) else (if v2 ≤ (2 : Int32) then (f_M_hold_23 fu (v0) (v1) (v2) (v0) ((0 : Int32)) r1.2) else (f_M_hold_18 fu (v0) (v1) (v2) (v0) r1.2))))))
section
variable {p : Program} {l : Launch} {e : Env} {s : State} {m : MethodId} {args : Array Value} {below : List Frame} {meth : Method} {c : Code} {D : va_G} {ca : Nat → Nat} {A : Nat → Prop} {ad : Nat → Nat}
set_option maxRecDepth 100000 in
set_option maxHeartbeats 4000000 in
theorem v_M_hold_23 (K : av_K p s m args meth c D cl8 ca A b_M_hold 4 R_M WS) (G : av_G NS tabON A s s.heap) (hr : meth.sig.returnType = some .int) (fu : Nat) {r : Int32 × List va_E} (v0 : Nat) (v1 : Int32) (v2 : Int32) (s0 : Nat) (s1 : Int32) (w : List va_E) (h : f_M_hold_23 fu v0 v1 v2 s0 s1 w = some r) : av_VI p l e rm_M_hold s m args below meth c D cl8 A ad ca 4 r 23 [some (.ref v0), some (.int v1), some (.int v2), none] [.int s1, .ref s0] w := by
  unfold f_M_hold_23 at h
  obtain ⟨w1, ew1, h⟩ := hp_bd h
  refine hv_pi K fp_M_58 d_M_hold_23 ew1 ?_
  refine av_aload_n K d_M_hold_26 rfl rfl ?_
  obtain ⟨x2, ex2, h⟩ := hp_bd h
  refine hv_gi K fl_M_58 d_M_hold_27 ex2 ?_
  refine av_if_le (tgt := 35) K d_M_hold_30 rfl (fun hc => ?_) (fun hc => ?_)
  · rw [if_pos hc] at h
    refine av_aload_n K d_M_hold_35 rfl rfl ?_
    obtain ⟨q3, eq3, h⟩ := hp_bd h
    refine hv_gr K fl_M_13 d_M_hold_36 eq3 ?_
    refine av_iload_n K d_M_hold_39 rfl rfl ?_
    obtain ⟨x4, ex4, h⟩ := hp_bd h
    refine hv_ri K d_M_hold_40 ex4 ?_
    refine av_istore_n (L' := [some (.ref v0), some (.int v1), some (.int v2), some (.int x4)]) K d_M_hold_41 rfl (Nat.le_of_ble_eq_true rfl) rfl ?_
    refine av_aload_n K d_M_hold_42 rfl rfl ?_
    obtain ⟨q5, eq5, h⟩ := hp_bd h
    refine hv_gr K fl_M_13 d_M_hold_43 eq5 ?_
    refine av_iload_n K d_M_hold_46 rfl rfl ?_
    refine av_iload_n K d_M_hold_47 rfl rfl ?_
    obtain ⟨w6, ew6, h⟩ := hp_bd h
    refine hv_wi K d_M_hold_48 ew6 ?_
    refine av_iload_n K d_M_hold_49 rfl rfl ?_
    obtain rfl := Option.some.inj h
    exact av_ireturn K hr d_M_hold_50 rfl
  · rw [if_neg hc] at h
    refine av_iconst (v := (0 : Int32)) K d_M_hold_33 (by decide) ?_
    obtain rfl := Option.some.inj h
    exact av_ireturn K hr d_M_hold_34 rfl
set_option maxRecDepth 100000 in
set_option maxHeartbeats 4000000 in
theorem v_M_hold_18 (K : av_K p s m args meth c D cl8 ca A b_M_hold 4 R_M WS) (G : av_G NS tabON A s s.heap) (hr : meth.sig.returnType = some .int) (fu : Nat) {r : Int32 × List va_E} (v0 : Nat) (v1 : Int32) (v2 : Int32) (s0 : Nat) (w : List va_E) (h : f_M_hold_18 fu v0 v1 v2 s0 w = some r) : av_VI p l e rm_M_hold s m args below meth c D cl8 A ad ca 4 r 18 [some (.ref v0), some (.int v1), some (.int v2), none] [.ref s0] w := by
  unfold f_M_hold_18 at h
  refine av_iconst (v := (1 : Int32)) K d_M_hold_18 (by decide) ?_
  refine av_goto (tgt := 23) K d_M_hold_19 rfl ?_
  exact v_M_hold_23 K G hr fu (v0) (v1) (v2) (s0) ((1 : Int32)) _ h
set_option maxRecDepth 100000 in
set_option maxHeartbeats 4000000 in
theorem v_M_hold (K : av_K p s m args meth c D cl8 ca A b_M_hold 4 R_M WS) (G : av_G NS tabON A s s.heap) (hr : meth.sig.returnType = some .int) (fu : Nat) {r : Int32 × List va_E} (v0 : Nat) (v1 : Int32) (v2 : Int32) (w : List va_E) (h : f_M_hold fu v0 v1 v2 w = some r) : av_VI p l e rm_M_hold s m args below meth c D cl8 A ad ca 4 r 0 [some (.ref v0), some (.int v1), some (.int v2), none] [] w := by
  unfold f_M_hold at h
  refine av_aload_n K d_M_hold_0 rfl rfl ?_
  refine av_aload_n K d_M_hold_1 rfl rfl ?_
  refine av_iload_n K d_M_hold_2 rfl rfl ?_
  obtain ⟨_, eo3, h⟩ := hp_bd h
  obtain ⟨r1, er1, h⟩ := hp_bd h
  obtain ⟨fs3, ho3⟩ := hp_is_of eo3
  refine av_cVi K G (c_M_isEvent (tab := tabON) er1) (cwV 1 K.2.2.2.2.1 (gV ml_M_67 im_M_isEvent se_M_isEvent in_M co_M_isEvent) rfl rfl rfl cd_M_isEvent ⟨Nat.le_of_ble_eq_true rfl, Nat.le_of_ble_eq_true rfl⟩) rfl ho3 rfl rfl (Nat.le_of_ble_eq_true rfl) d_M_hold_3 ⟨Nat.zero_le _, Nat.zero_le _⟩ (fun a9 u9 h9 => ?_)
  obtain ⟨rfl, rfl⟩ : a9 = r1.1 ∧ u9 = r1.2 := ⟨congrArg Prod.fst h9, congrArg Prod.snd h9⟩
  refine av_if_eq (tgt := 18) K d_M_hold_6 rfl (fun hc => ?_) (fun hc => ?_)
  · rw [if_pos hc] at h
    exact v_M_hold_18 K G hr fu (v0) (v1) (v2) (v0) _ h
  · rw [if_neg hc] at h
    refine av_iload_n K d_M_hold_9 rfl rfl ?_
    refine av_if_lt (tgt := 18) K d_M_hold_10 rfl (fun hc => ?_) (fun hc => ?_)
    · rw [if_pos hc] at h
      exact v_M_hold_18 K G hr fu (v0) (v1) (v2) (v0) _ h
    · rw [if_neg hc] at h
      refine av_iload_n K d_M_hold_13 rfl rfl ?_
      refine av_iconst (v := (2 : Int32)) K d_M_hold_14 (by decide) ?_
      refine av_icmp_le (tgt := 22) K d_M_hold_15 rfl (fun hc => ?_) (fun hc => ?_)
      · rw [if_pos hc] at h
        refine av_iconst (v := (0 : Int32)) K d_M_hold_22 (by decide) ?_
        exact v_M_hold_23 K G hr fu (v0) (v1) (v2) (v0) ((0 : Int32)) _ h
      · rw [if_neg hc] at h
        exact v_M_hold_18 K G hr fu (v0) (v1) (v2) (v0) _ h
end
set_option maxRecDepth 100000 in
theorem c_M_hold {l : Launch} {D : va_G} {ca : Nat → Nat} {tab : Nat → Int64} {fu : Nat} {v0 : Nat} {v1 : Int32} {v2 : Int32} {w : List va_E} {r : Int32 × List va_E} (h : f_M_hold fu v0 v1 v2 w = some r) : av_Ci l D cl8 ca NS tabON y_M_hold w_M_hold rm_M_hold [.ref v0, .int v1, .int v2] w (fun v u => (v, u) = r) :=
  av_inI (cc := b_M_hold) (nL := 4) (by decide +kernel) rfl (Nat.le_of_ble_eq_true rfl) (fun p e s m args below meth c A ad K G hr => v_M_hold K G hr fu v0 v1 v2 w h)

-- FaultTreeDeskModel.gate(II)I
theorem d_M_gate_0 : decode b_M_gate 0 = .ok (.iload_n 1, 1) := by decide +kernel
theorem d_M_gate_1 : decode b_M_gate 1 = .ok (.ifCond .lt 43, 3) := by decide +kernel
theorem d_M_gate_4 : decode b_M_gate 4 = .ok (.iload_n 1, 1) := by decide +kernel
theorem d_M_gate_5 : decode b_M_gate 5 = .ok (.iconst 4, 1) := by decide +kernel
theorem d_M_gate_6 : decode b_M_gate 6 = .ok (.if_icmp .gt 38, 3) := by decide +kernel
theorem d_M_gate_9 : decode b_M_gate 9 = .ok (.iload_n 2, 1) := by decide +kernel
theorem d_M_gate_10 : decode b_M_gate 10 = .ok (.ifCond .lt 34, 3) := by decide +kernel
theorem d_M_gate_13 : decode b_M_gate 13 = .ok (.iload_n 2, 1) := by decide +kernel
theorem d_M_gate_14 : decode b_M_gate 14 = .ok (.iconst 4, 1) := by decide +kernel
theorem d_M_gate_15 : decode b_M_gate 15 = .ok (.if_icmp .gt 29, 3) := by decide +kernel
theorem d_M_gate_18 : decode b_M_gate 18 = .ok (.iload_n 1, 1) := by decide +kernel
theorem d_M_gate_19 : decode b_M_gate 19 = .ok (.iconst 2, 1) := by decide +kernel
theorem d_M_gate_20 : decode b_M_gate 20 = .ok (.if_icmp .ne 7, 3) := by decide +kernel
theorem d_M_gate_23 : decode b_M_gate 23 = .ok (.iconst 1, 1) := by decide +kernel
theorem d_M_gate_24 : decode b_M_gate 24 = .ok (.goto 4, 3) := by decide +kernel
theorem d_M_gate_27 : decode b_M_gate 27 = .ok (.iconst 0, 1) := by decide +kernel
theorem d_M_gate_28 : decode b_M_gate 28 = .ok (.iload_n 2, 1) := by decide +kernel
theorem d_M_gate_29 : decode b_M_gate 29 = .ok (.ifCond .le 7, 3) := by decide +kernel
theorem d_M_gate_32 : decode b_M_gate 32 = .ok (.iconst 1, 1) := by decide +kernel
theorem d_M_gate_33 : decode b_M_gate 33 = .ok (.goto 4, 3) := by decide +kernel
theorem d_M_gate_36 : decode b_M_gate 36 = .ok (.iconst 0, 1) := by decide +kernel
theorem d_M_gate_37 : decode b_M_gate 37 = .ok (.if_icmp .ne 7, 3) := by decide +kernel
theorem d_M_gate_40 : decode b_M_gate 40 = .ok (.iconst 1, 1) := by decide +kernel
theorem d_M_gate_41 : decode b_M_gate 41 = .ok (.goto 4, 3) := by decide +kernel
theorem d_M_gate_44 : decode b_M_gate 44 = .ok (.iconst 0, 1) := by decide +kernel
theorem d_M_gate_45 : decode b_M_gate 45 = .ok (.istore_n 3, 1) := by decide +kernel
theorem d_M_gate_46 : decode b_M_gate 46 = .ok (.aload_n 0, 1) := by decide +kernel
theorem d_M_gate_47 : decode b_M_gate 47 = .ok (.iload_n 3, 1) := by decide +kernel
theorem d_M_gate_48 : decode b_M_gate 48 = .ok (.ifCond .ne 7, 3) := by decide +kernel
theorem d_M_gate_51 : decode b_M_gate 51 = .ok (.iconst 1, 1) := by decide +kernel
theorem d_M_gate_52 : decode b_M_gate 52 = .ok (.goto 17, 3) := by decide +kernel
theorem d_M_gate_55 : decode b_M_gate 55 = .ok (.aload_n 0, 1) := by decide +kernel
theorem d_M_gate_56 : decode b_M_gate 56 = .ok (.getfield 64, 3) := by decide +kernel
theorem d_M_gate_59 : decode b_M_gate 59 = .ok (.bipush 12, 2) := by decide +kernel
theorem d_M_gate_61 : decode b_M_gate 61 = .ok (.if_icmp .ne 7, 3) := by decide +kernel
theorem d_M_gate_64 : decode b_M_gate 64 = .ok (.iconst 2, 1) := by decide +kernel
theorem d_M_gate_65 : decode b_M_gate 65 = .ok (.goto 4, 3) := by decide +kernel
theorem d_M_gate_68 : decode b_M_gate 68 = .ok (.iconst 0, 1) := by decide +kernel
theorem d_M_gate_69 : decode b_M_gate 69 = .ok (.putfield 58, 3) := by decide +kernel
theorem d_M_gate_72 : decode b_M_gate 72 = .ok (.aload_n 0, 1) := by decide +kernel
theorem d_M_gate_73 : decode b_M_gate 73 = .ok (.getfield 58, 3) := by decide +kernel
theorem d_M_gate_76 : decode b_M_gate 76 = .ok (.ifCond .le 5, 3) := by decide +kernel
theorem d_M_gate_79 : decode b_M_gate 79 = .ok (.iconst 0, 1) := by decide +kernel
theorem d_M_gate_80 : decode b_M_gate 80 = .ok (.ireturn, 1) := by decide +kernel
theorem d_M_gate_81 : decode b_M_gate 81 = .ok (.aload_n 0, 1) := by decide +kernel
theorem d_M_gate_82 : decode b_M_gate 82 = .ok (.getfield 16, 3) := by decide +kernel
theorem d_M_gate_85 : decode b_M_gate 85 = .ok (.aload_n 0, 1) := by decide +kernel
theorem d_M_gate_86 : decode b_M_gate 86 = .ok (.getfield 64, 3) := by decide +kernel
theorem d_M_gate_89 : decode b_M_gate 89 = .ok (.iload_n 1, 1) := by decide +kernel
theorem d_M_gate_90 : decode b_M_gate 90 = .ok (.iastore, 1) := by decide +kernel
theorem d_M_gate_91 : decode b_M_gate 91 = .ok (.aload_n 0, 1) := by decide +kernel
theorem d_M_gate_92 : decode b_M_gate 92 = .ok (.getfield 19, 3) := by decide +kernel
theorem d_M_gate_95 : decode b_M_gate 95 = .ok (.aload_n 0, 1) := by decide +kernel
theorem d_M_gate_96 : decode b_M_gate 96 = .ok (.getfield 64, 3) := by decide +kernel
theorem d_M_gate_99 : decode b_M_gate 99 = .ok (.iload_n 2, 1) := by decide +kernel
theorem d_M_gate_100 : decode b_M_gate 100 = .ok (.iastore, 1) := by decide +kernel
theorem d_M_gate_101 : decode b_M_gate 101 = .ok (.aload_n 0, 1) := by decide +kernel
theorem d_M_gate_102 : decode b_M_gate 102 = .ok (.dup, 1) := by decide +kernel
theorem d_M_gate_103 : decode b_M_gate 103 = .ok (.getfield 64, 3) := by decide +kernel
theorem d_M_gate_106 : decode b_M_gate 106 = .ok (.iconst 1, 1) := by decide +kernel
theorem d_M_gate_107 : decode b_M_gate 107 = .ok (.iadd, 1) := by decide +kernel
theorem d_M_gate_108 : decode b_M_gate 108 = .ok (.putfield 64, 3) := by decide +kernel
theorem d_M_gate_111 : decode b_M_gate 111 = .ok (.aload_n 0, 1) := by decide +kernel
theorem d_M_gate_112 : decode b_M_gate 112 = .ok (.getfield 64, 3) := by decide +kernel
theorem d_M_gate_115 : decode b_M_gate 115 = .ok (.iconst 1, 1) := by decide +kernel
theorem d_M_gate_116 : decode b_M_gate 116 = .ok (.isub, 1) := by decide +kernel
theorem d_M_gate_117 : decode b_M_gate 117 = .ok (.ireturn, 1) := by decide +kernel
def rm_M_gate : Room := { frames := 0, cells := 0, slots := 0, locals := 0 }
def f_M_gate_69 (fu : Nat) (v0 : Nat) (v1 : Int32) (v2 : Int32) (s0 : Nat) (s1 : Int32) (w : List va_E) : Option (Int32 × List va_E) := ((hp_pi w s0 7 0 s1).bind fun w1 => ((hp_gi w1 v0 7 0).bind fun x2 => (if x2 ≤ 0 then ((hp_gr w1 v0 7 5).bind fun q3 => ((hp_gi w1 v0 7 4).bind fun x4 => ((hp_wi w1 q3 x4 v1).bind fun w5 => ((hp_gr w5 v0 7 6).bind fun q6 => ((hp_gi w5 v0 7 4).bind fun x7 => ((hp_wi w5 q6 x7 v2).bind fun w8 => ((hp_gi w8 v0 7 4).bind fun x9 => ((hp_pi w8 v0 7 4 (x9 + (1 : Int32))).bind fun w10 => ((hp_gi w10 v0 7 4).bind fun x11 => (some ((x11 - (1 : Int32)), w10))))))))))) else (some ((0 : Int32), w1)))))
def f_M_gate_45 (fu : Nat) (v0 : Nat) (v1 : Int32) (v2 : Int32) (s0 : Int32) (w : List va_E) : Option (Int32 × List va_E) := (if s0 = 0 then (f_M_gate_69 fu (v0) (v1) (v2) (v0) ((1 : Int32)) w) else ((hp_gi w v0 7 4).bind fun x1 => (if x1 = (12 : Int32) then (f_M_gate_69 fu (v0) (v1) (v2) (v0) ((2 : Int32)) w) else (f_M_gate_69 fu (v0) (v1) (v2) (v0) ((0 : Int32)) w))))
def f_M_gate_44 (fu : Nat) (v0 : Nat) (v1 : Int32) (v2 : Int32) (w : List va_E) : Option (Int32 × List va_E) := (f_M_gate_45 fu (v0) (v1) (v2) ((0 : Int32)) w)
def f_M_gate_37 (fu : Nat) (v0 : Nat) (v1 : Int32) (v2 : Int32) (s0 : Int32) (s1 : Int32) (w : List va_E) : Option (Int32 × List va_E) := (if s0 = s1 then (f_M_gate_45 fu (v0) (v1) (v2) ((1 : Int32)) w) else (f_M_gate_44 fu (v0) (v1) (v2) w))
def f_M_gate_28 (fu : Nat) (v0 : Nat) (v1 : Int32) (v2 : Int32) (s0 : Int32) (w : List va_E) : Option (Int32 × List va_E) := (if v2 ≤ 0 then (f_M_gate_37 fu (v0) (v1) (v2) (s0) ((0 : Int32)) w) else (f_M_gate_37 fu (v0) (v1) (v2) (s0) ((1 : Int32)) w))
def f_M_gate (fu : Nat) (v0 : Nat) (v1 : Int32) (v2 : Int32) (w : List va_E) : Option (Int32 × List va_E) := (if v1 < 0 then (f_M_gate_44 fu (v0) (v1) (v2) w) else (if (4 : Int32) < v1 then (f_M_gate_44 fu (v0) (v1) (v2) w) else (if v2 < 0 then (f_M_gate_44 fu (v0) (v1) (v2) w) else (if (4 : Int32) < v2 then (f_M_gate_44 fu (v0) (v1) (v2) w) else (if v1 = (2 : Int32) then (f_M_gate_28 fu (v0) (v1) (v2) ((1 : Int32)) w) else (f_M_gate_28 fu (v0) (v1) (v2) ((0 : Int32)) w))))))
section
variable {p : Program} {l : Launch} {e : Env} {s : State} {m : MethodId} {args : Array Value} {below : List Frame} {meth : Method} {c : Code} {D : va_G} {ca : Nat → Nat} {A : Nat → Prop} {ad : Nat → Nat}
set_option maxRecDepth 100000 in
set_option maxHeartbeats 4000000 in
theorem v_M_gate_69 (K : av_K p s m args meth c D cl8 ca A b_M_gate 4 R_M WS) (G : av_G NS tabON A s s.heap) (hr : meth.sig.returnType = some .int) (fu : Nat) {r : Int32 × List va_E} (v0 : Nat) (v1 : Int32) (v2 : Int32) (s0 : Nat) (s1 : Int32) (w : List va_E) (h : f_M_gate_69 fu v0 v1 v2 s0 s1 w = some r) : av_VI p l e rm_M_gate s m args below meth c D cl8 A ad ca 4 r 69 [some (.ref v0), some (.int v1), some (.int v2), none] [.int s1, .ref s0] w := by
  unfold f_M_gate_69 at h
  obtain ⟨w1, ew1, h⟩ := hp_bd h
  refine hv_pi K fp_M_58 d_M_gate_69 ew1 ?_
  refine av_aload_n K d_M_gate_72 rfl rfl ?_
  obtain ⟨x2, ex2, h⟩ := hp_bd h
  refine hv_gi K fl_M_58 d_M_gate_73 ex2 ?_
  refine av_if_le (tgt := 81) K d_M_gate_76 rfl (fun hc => ?_) (fun hc => ?_)
  · rw [if_pos hc] at h
    refine av_aload_n K d_M_gate_81 rfl rfl ?_
    obtain ⟨q3, eq3, h⟩ := hp_bd h
    refine hv_gr K fl_M_16 d_M_gate_82 eq3 ?_
    refine av_aload_n K d_M_gate_85 rfl rfl ?_
    obtain ⟨x4, ex4, h⟩ := hp_bd h
    refine hv_gi K fl_M_64 d_M_gate_86 ex4 ?_
    refine av_iload_n K d_M_gate_89 rfl rfl ?_
    obtain ⟨w5, ew5, h⟩ := hp_bd h
    refine hv_wi K d_M_gate_90 ew5 ?_
    refine av_aload_n K d_M_gate_91 rfl rfl ?_
    obtain ⟨q6, eq6, h⟩ := hp_bd h
    refine hv_gr K fl_M_19 d_M_gate_92 eq6 ?_
    refine av_aload_n K d_M_gate_95 rfl rfl ?_
    obtain ⟨x7, ex7, h⟩ := hp_bd h
    refine hv_gi K fl_M_64 d_M_gate_96 ex7 ?_
    refine av_iload_n K d_M_gate_99 rfl rfl ?_
    obtain ⟨w8, ew8, h⟩ := hp_bd h
    refine hv_wi K d_M_gate_100 ew8 ?_
    refine av_aload_n K d_M_gate_101 rfl rfl ?_
    refine av_dup K d_M_gate_102 rfl ?_
    obtain ⟨x9, ex9, h⟩ := hp_bd h
    refine hv_gi K fl_M_64 d_M_gate_103 ex9 ?_
    refine av_iconst (v := (1 : Int32)) K d_M_gate_106 (by decide) ?_
    refine av_iadd K d_M_gate_107 ?_
    obtain ⟨w10, ew10, h⟩ := hp_bd h
    refine hv_pi K fp_M_64 d_M_gate_108 ew10 ?_
    refine av_aload_n K d_M_gate_111 rfl rfl ?_
    obtain ⟨x11, ex11, h⟩ := hp_bd h
    refine hv_gi K fl_M_64 d_M_gate_112 ex11 ?_
    refine av_iconst (v := (1 : Int32)) K d_M_gate_115 (by decide) ?_
    refine av_isub K d_M_gate_116 ?_
    obtain rfl := Option.some.inj h
    exact av_ireturn K hr d_M_gate_117 rfl
  · rw [if_neg hc] at h
    refine av_iconst (v := (0 : Int32)) K d_M_gate_79 (by decide) ?_
    obtain rfl := Option.some.inj h
    exact av_ireturn K hr d_M_gate_80 rfl
set_option maxRecDepth 100000 in
set_option maxHeartbeats 4000000 in
theorem v_M_gate_45 (K : av_K p s m args meth c D cl8 ca A b_M_gate 4 R_M WS) (G : av_G NS tabON A s s.heap) (hr : meth.sig.returnType = some .int) (fu : Nat) {r : Int32 × List va_E} (v0 : Nat) (v1 : Int32) (v2 : Int32) (s0 : Int32) (w : List va_E) (h : f_M_gate_45 fu v0 v1 v2 s0 w = some r) : av_VI p l e rm_M_gate s m args below meth c D cl8 A ad ca 4 r 45 [some (.ref v0), some (.int v1), some (.int v2), none] [.int s0] w := by
  unfold f_M_gate_45 at h
  refine av_istore_n (L' := [some (.ref v0), some (.int v1), some (.int v2), some (.int s0)]) K d_M_gate_45 rfl (Nat.le_of_ble_eq_true rfl) rfl ?_
  refine av_aload_n K d_M_gate_46 rfl rfl ?_
  refine av_iload_n K d_M_gate_47 rfl rfl ?_
  refine av_if_ne (tgt := 55) K d_M_gate_48 rfl (fun hc => ?_) (fun hc => ?_)
  · rw [if_neg hc] at h
    refine av_aload_n K d_M_gate_55 rfl rfl ?_
    obtain ⟨x1, ex1, h⟩ := hp_bd h
    refine hv_gi K fl_M_64 d_M_gate_56 ex1 ?_
    refine av_bipush (v := (12 : Int32)) K d_M_gate_59 (by decide) ?_
    refine av_icmp_ne (tgt := 68) K d_M_gate_61 rfl (fun hc => ?_) (fun hc => ?_)
    · rw [if_neg hc] at h
      refine av_iconst (v := (0 : Int32)) K d_M_gate_68 (by decide) ?_
      refine hv_fg (L' := [some (.ref v0), some (.int v1), some (.int v2), none]) [3] rfl ?_
      exact v_M_gate_69 K G hr fu (v0) (v1) (v2) (v0) ((0 : Int32)) _ h
    · rw [if_pos hc] at h
      refine av_iconst (v := (2 : Int32)) K d_M_gate_64 (by decide) ?_
      refine av_goto (tgt := 69) K d_M_gate_65 rfl ?_
      refine hv_fg (L' := [some (.ref v0), some (.int v1), some (.int v2), none]) [3] rfl ?_
      exact v_M_gate_69 K G hr fu (v0) (v1) (v2) (v0) ((2 : Int32)) _ h
  · rw [if_pos hc] at h
    refine av_iconst (v := (1 : Int32)) K d_M_gate_51 (by decide) ?_
    refine av_goto (tgt := 69) K d_M_gate_52 rfl ?_
    refine hv_fg (L' := [some (.ref v0), some (.int v1), some (.int v2), none]) [3] rfl ?_
    exact v_M_gate_69 K G hr fu (v0) (v1) (v2) (v0) ((1 : Int32)) _ h
set_option maxRecDepth 100000 in
set_option maxHeartbeats 4000000 in
theorem v_M_gate_44 (K : av_K p s m args meth c D cl8 ca A b_M_gate 4 R_M WS) (G : av_G NS tabON A s s.heap) (hr : meth.sig.returnType = some .int) (fu : Nat) {r : Int32 × List va_E} (v0 : Nat) (v1 : Int32) (v2 : Int32) (w : List va_E) (h : f_M_gate_44 fu v0 v1 v2 w = some r) : av_VI p l e rm_M_gate s m args below meth c D cl8 A ad ca 4 r 44 [some (.ref v0), some (.int v1), some (.int v2), none] [] w := by
  unfold f_M_gate_44 at h
  refine av_iconst (v := (0 : Int32)) K d_M_gate_44 (by decide) ?_
  exact v_M_gate_45 K G hr fu (v0) (v1) (v2) ((0 : Int32)) _ h
set_option maxRecDepth 100000 in
set_option maxHeartbeats 4000000 in
theorem v_M_gate_37 (K : av_K p s m args meth c D cl8 ca A b_M_gate 4 R_M WS) (G : av_G NS tabON A s s.heap) (hr : meth.sig.returnType = some .int) (fu : Nat) {r : Int32 × List va_E} (v0 : Nat) (v1 : Int32) (v2 : Int32) (s0 : Int32) (s1 : Int32) (w : List va_E) (h : f_M_gate_37 fu v0 v1 v2 s0 s1 w = some r) : av_VI p l e rm_M_gate s m args below meth c D cl8 A ad ca 4 r 37 [some (.ref v0), some (.int v1), some (.int v2), none] [.int s1, .int s0] w := by
  unfold f_M_gate_37 at h
  refine av_icmp_ne (tgt := 44) K d_M_gate_37 rfl (fun hc => ?_) (fun hc => ?_)
  · rw [if_neg hc] at h
    exact v_M_gate_44 K G hr fu (v0) (v1) (v2) _ h
  · rw [if_pos hc] at h
    refine av_iconst (v := (1 : Int32)) K d_M_gate_40 (by decide) ?_
    refine av_goto (tgt := 45) K d_M_gate_41 rfl ?_
    exact v_M_gate_45 K G hr fu (v0) (v1) (v2) ((1 : Int32)) _ h
set_option maxRecDepth 100000 in
set_option maxHeartbeats 4000000 in
theorem v_M_gate_28 (K : av_K p s m args meth c D cl8 ca A b_M_gate 4 R_M WS) (G : av_G NS tabON A s s.heap) (hr : meth.sig.returnType = some .int) (fu : Nat) {r : Int32 × List va_E} (v0 : Nat) (v1 : Int32) (v2 : Int32) (s0 : Int32) (w : List va_E) (h : f_M_gate_28 fu v0 v1 v2 s0 w = some r) : av_VI p l e rm_M_gate s m args below meth c D cl8 A ad ca 4 r 28 [some (.ref v0), some (.int v1), some (.int v2), none] [.int s0] w := by
  unfold f_M_gate_28 at h
  refine av_iload_n K d_M_gate_28 rfl rfl ?_
  refine av_if_le (tgt := 36) K d_M_gate_29 rfl (fun hc => ?_) (fun hc => ?_)
  · rw [if_pos hc] at h
    refine av_iconst (v := (0 : Int32)) K d_M_gate_36 (by decide) ?_
    exact v_M_gate_37 K G hr fu (v0) (v1) (v2) (s0) ((0 : Int32)) _ h
  · rw [if_neg hc] at h
    refine av_iconst (v := (1 : Int32)) K d_M_gate_32 (by decide) ?_
    refine av_goto (tgt := 37) K d_M_gate_33 rfl ?_
    exact v_M_gate_37 K G hr fu (v0) (v1) (v2) (s0) ((1 : Int32)) _ h
set_option maxRecDepth 100000 in
set_option maxHeartbeats 4000000 in
theorem v_M_gate (K : av_K p s m args meth c D cl8 ca A b_M_gate 4 R_M WS) (G : av_G NS tabON A s s.heap) (hr : meth.sig.returnType = some .int) (fu : Nat) {r : Int32 × List va_E} (v0 : Nat) (v1 : Int32) (v2 : Int32) (w : List va_E) (h : f_M_gate fu v0 v1 v2 w = some r) : av_VI p l e rm_M_gate s m args below meth c D cl8 A ad ca 4 r 0 [some (.ref v0), some (.int v1), some (.int v2), none] [] w := by
  unfold f_M_gate at h
  refine av_iload_n K d_M_gate_0 rfl rfl ?_
  refine av_if_lt (tgt := 44) K d_M_gate_1 rfl (fun hc => ?_) (fun hc => ?_)
  · rw [if_pos hc] at h
    exact v_M_gate_44 K G hr fu (v0) (v1) (v2) _ h
  · rw [if_neg hc] at h
    refine av_iload_n K d_M_gate_4 rfl rfl ?_
    refine av_iconst (v := (4 : Int32)) K d_M_gate_5 (by decide) ?_
    refine av_icmp_gt (tgt := 44) K d_M_gate_6 rfl (fun hc => ?_) (fun hc => ?_)
    · rw [if_pos hc] at h
      exact v_M_gate_44 K G hr fu (v0) (v1) (v2) _ h
    · rw [if_neg hc] at h
      refine av_iload_n K d_M_gate_9 rfl rfl ?_
      refine av_if_lt (tgt := 44) K d_M_gate_10 rfl (fun hc => ?_) (fun hc => ?_)
      · rw [if_pos hc] at h
        exact v_M_gate_44 K G hr fu (v0) (v1) (v2) _ h
      · rw [if_neg hc] at h
        refine av_iload_n K d_M_gate_13 rfl rfl ?_
        refine av_iconst (v := (4 : Int32)) K d_M_gate_14 (by decide) ?_
        refine av_icmp_gt (tgt := 44) K d_M_gate_15 rfl (fun hc => ?_) (fun hc => ?_)
        · rw [if_pos hc] at h
          exact v_M_gate_44 K G hr fu (v0) (v1) (v2) _ h
        · rw [if_neg hc] at h
          refine av_iload_n K d_M_gate_18 rfl rfl ?_
          refine av_iconst (v := (2 : Int32)) K d_M_gate_19 (by decide) ?_
          refine av_icmp_ne (tgt := 27) K d_M_gate_20 rfl (fun hc => ?_) (fun hc => ?_)
          · rw [if_neg hc] at h
            refine av_iconst (v := (0 : Int32)) K d_M_gate_27 (by decide) ?_
            exact v_M_gate_28 K G hr fu (v0) (v1) (v2) ((0 : Int32)) _ h
          · rw [if_pos hc] at h
            refine av_iconst (v := (1 : Int32)) K d_M_gate_23 (by decide) ?_
            refine av_goto (tgt := 28) K d_M_gate_24 rfl ?_
            exact v_M_gate_28 K G hr fu (v0) (v1) (v2) ((1 : Int32)) _ h
end
set_option maxRecDepth 100000 in
theorem c_M_gate {l : Launch} {D : va_G} {ca : Nat → Nat} {tab : Nat → Int64} {fu : Nat} {v0 : Nat} {v1 : Int32} {v2 : Int32} {w : List va_E} {r : Int32 × List va_E} (h : f_M_gate fu v0 v1 v2 w = some r) : av_Ci l D cl8 ca NS tabON y_M_gate w_M_gate rm_M_gate [.ref v0, .int v1, .int v2] w (fun v u => (v, u) = r) :=
  av_inI (cc := b_M_gate) (nL := 4) (by decide +kernel) rfl (Nat.le_of_ble_eq_true rfl) (fun p e s m args below meth c A ad K G hr => v_M_gate K G hr fu v0 v1 v2 w h)

-- FaultTreeDeskModel.findBelow()V
theorem d_M_findBelow_0 : decode b_M_findBelow 0 = .ok (.iconst 0, 1) := by decide +kernel
theorem d_M_findBelow_1 : decode b_M_findBelow 1 = .ok (.istore_n 1, 1) := by decide +kernel
theorem d_M_findBelow_2 : decode b_M_findBelow 2 = .ok (.iload_n 1, 1) := by decide +kernel
theorem d_M_findBelow_3 : decode b_M_findBelow 3 = .ok (.sipush 144, 3) := by decide +kernel
theorem d_M_findBelow_6 : decode b_M_findBelow 6 = .ok (.if_icmp .ge 16, 3) := by decide +kernel
theorem d_M_findBelow_9 : decode b_M_findBelow 9 = .ok (.aload_n 0, 1) := by decide +kernel
theorem d_M_findBelow_10 : decode b_M_findBelow 10 = .ok (.getfield 32, 3) := by decide +kernel
theorem d_M_findBelow_13 : decode b_M_findBelow 13 = .ok (.iload_n 1, 1) := by decide +kernel
theorem d_M_findBelow_14 : decode b_M_findBelow 14 = .ok (.iconst 0, 1) := by decide +kernel
theorem d_M_findBelow_15 : decode b_M_findBelow 15 = .ok (.bastore, 1) := by decide +kernel
theorem d_M_findBelow_16 : decode b_M_findBelow 16 = .ok (.iinc 1 1, 3) := by decide +kernel
theorem d_M_findBelow_19 : decode b_M_findBelow 19 = .ok (.goto (-17), 3) := by decide +kernel
theorem d_M_findBelow_22 : decode b_M_findBelow 22 = .ok (.iconst 0, 1) := by decide +kernel
theorem d_M_findBelow_23 : decode b_M_findBelow 23 = .ok (.istore_n 1, 1) := by decide +kernel
theorem d_M_findBelow_24 : decode b_M_findBelow 24 = .ok (.iload_n 1, 1) := by decide +kernel
theorem d_M_findBelow_25 : decode b_M_findBelow 25 = .ok (.aload_n 0, 1) := by decide +kernel
theorem d_M_findBelow_26 : decode b_M_findBelow 26 = .ok (.getfield 64, 3) := by decide +kernel
theorem d_M_findBelow_29 : decode b_M_findBelow 29 = .ok (.if_icmp .ge 64, 3) := by decide +kernel
theorem d_M_findBelow_32 : decode b_M_findBelow 32 = .ok (.iconst 4, 1) := by decide +kernel
theorem d_M_findBelow_33 : decode b_M_findBelow 33 = .ok (.iload_n 1, 1) := by decide +kernel
theorem d_M_findBelow_34 : decode b_M_findBelow 34 = .ok (.imul, 1) := by decide +kernel
theorem d_M_findBelow_35 : decode b_M_findBelow 35 = .ok (.istore_n 2, 1) := by decide +kernel
theorem d_M_findBelow_36 : decode b_M_findBelow 36 = .ok (.iload_n 2, 1) := by decide +kernel
theorem d_M_findBelow_37 : decode b_M_findBelow 37 = .ok (.iconst 4, 1) := by decide +kernel
theorem d_M_findBelow_38 : decode b_M_findBelow 38 = .ok (.iload_n 1, 1) := by decide +kernel
theorem d_M_findBelow_39 : decode b_M_findBelow 39 = .ok (.imul, 1) := by decide +kernel
theorem d_M_findBelow_40 : decode b_M_findBelow 40 = .ok (.aload_n 0, 1) := by decide +kernel
theorem d_M_findBelow_41 : decode b_M_findBelow 41 = .ok (.getfield 22, 3) := by decide +kernel
theorem d_M_findBelow_44 : decode b_M_findBelow 44 = .ok (.iload_n 1, 1) := by decide +kernel
theorem d_M_findBelow_45 : decode b_M_findBelow 45 = .ok (.iaload, 1) := by decide +kernel
theorem d_M_findBelow_46 : decode b_M_findBelow 46 = .ok (.iadd, 1) := by decide +kernel
theorem d_M_findBelow_47 : decode b_M_findBelow 47 = .ok (.if_icmp .ge 40, 3) := by decide +kernel
theorem d_M_findBelow_50 : decode b_M_findBelow 50 = .ok (.aload_n 0, 1) := by decide +kernel
theorem d_M_findBelow_51 : decode b_M_findBelow 51 = .ok (.getfield 25, 3) := by decide +kernel
theorem d_M_findBelow_54 : decode b_M_findBelow 54 = .ok (.iload_n 2, 1) := by decide +kernel
theorem d_M_findBelow_55 : decode b_M_findBelow 55 = .ok (.iaload, 1) := by decide +kernel
theorem d_M_findBelow_56 : decode b_M_findBelow 56 = .ok (.bipush 16, 2) := by decide +kernel
theorem d_M_findBelow_58 : decode b_M_findBelow 58 = .ok (.if_icmp .lt 23, 3) := by decide +kernel
theorem d_M_findBelow_61 : decode b_M_findBelow 61 = .ok (.aload_n 0, 1) := by decide +kernel
theorem d_M_findBelow_62 : decode b_M_findBelow 62 = .ok (.getfield 32, 3) := by decide +kernel
theorem d_M_findBelow_65 : decode b_M_findBelow 65 = .ok (.bipush 12, 2) := by decide +kernel
theorem d_M_findBelow_67 : decode b_M_findBelow 67 = .ok (.iload_n 1, 1) := by decide +kernel
theorem d_M_findBelow_68 : decode b_M_findBelow 68 = .ok (.imul, 1) := by decide +kernel
theorem d_M_findBelow_69 : decode b_M_findBelow 69 = .ok (.aload_n 0, 1) := by decide +kernel
theorem d_M_findBelow_70 : decode b_M_findBelow 70 = .ok (.getfield 25, 3) := by decide +kernel
theorem d_M_findBelow_73 : decode b_M_findBelow 73 = .ok (.iload_n 2, 1) := by decide +kernel
theorem d_M_findBelow_74 : decode b_M_findBelow 74 = .ok (.iaload, 1) := by decide +kernel
theorem d_M_findBelow_75 : decode b_M_findBelow 75 = .ok (.iadd, 1) := by decide +kernel
theorem d_M_findBelow_76 : decode b_M_findBelow 76 = .ok (.bipush 16, 2) := by decide +kernel
theorem d_M_findBelow_78 : decode b_M_findBelow 78 = .ok (.isub, 1) := by decide +kernel
theorem d_M_findBelow_79 : decode b_M_findBelow 79 = .ok (.iconst 1, 1) := by decide +kernel
theorem d_M_findBelow_80 : decode b_M_findBelow 80 = .ok (.bastore, 1) := by decide +kernel
theorem d_M_findBelow_81 : decode b_M_findBelow 81 = .ok (.iinc 2 1, 3) := by decide +kernel
theorem d_M_findBelow_84 : decode b_M_findBelow 84 = .ok (.goto (-48), 3) := by decide +kernel
theorem d_M_findBelow_87 : decode b_M_findBelow 87 = .ok (.iinc 1 1, 3) := by decide +kernel
theorem d_M_findBelow_90 : decode b_M_findBelow 90 = .ok (.goto (-66), 3) := by decide +kernel
theorem d_M_findBelow_93 : decode b_M_findBelow 93 = .ok (.iconst 0, 1) := by decide +kernel
theorem d_M_findBelow_94 : decode b_M_findBelow 94 = .ok (.istore_n 1, 1) := by decide +kernel
theorem d_M_findBelow_95 : decode b_M_findBelow 95 = .ok (.iload_n 1, 1) := by decide +kernel
theorem d_M_findBelow_96 : decode b_M_findBelow 96 = .ok (.aload_n 0, 1) := by decide +kernel
theorem d_M_findBelow_97 : decode b_M_findBelow 97 = .ok (.getfield 64, 3) := by decide +kernel
theorem d_M_findBelow_100 : decode b_M_findBelow 100 = .ok (.if_icmp .ge 78, 3) := by decide +kernel
theorem d_M_findBelow_103 : decode b_M_findBelow 103 = .ok (.iconst 0, 1) := by decide +kernel
theorem d_M_findBelow_104 : decode b_M_findBelow 104 = .ok (.istore_n 2, 1) := by decide +kernel
theorem d_M_findBelow_105 : decode b_M_findBelow 105 = .ok (.iload_n 2, 1) := by decide +kernel
theorem d_M_findBelow_106 : decode b_M_findBelow 106 = .ok (.sipush 144, 3) := by decide +kernel
theorem d_M_findBelow_109 : decode b_M_findBelow 109 = .ok (.if_icmp .ge 63, 3) := by decide +kernel
theorem d_M_findBelow_112 : decode b_M_findBelow 112 = .ok (.aload_n 0, 1) := by decide +kernel
theorem d_M_findBelow_113 : decode b_M_findBelow 113 = .ok (.getfield 32, 3) := by decide +kernel
theorem d_M_findBelow_116 : decode b_M_findBelow 116 = .ok (.iload_n 2, 1) := by decide +kernel
theorem d_M_findBelow_117 : decode b_M_findBelow 117 = .ok (.aload_n 0, 1) := by decide +kernel
theorem d_M_findBelow_118 : decode b_M_findBelow 118 = .ok (.getfield 32, 3) := by decide +kernel
theorem d_M_findBelow_121 : decode b_M_findBelow 121 = .ok (.iload_n 2, 1) := by decide +kernel
theorem d_M_findBelow_122 : decode b_M_findBelow 122 = .ok (.baload, 1) := by decide +kernel
theorem d_M_findBelow_123 : decode b_M_findBelow 123 = .ok (.ifCond .ne 37, 3) := by decide +kernel
theorem d_M_findBelow_126 : decode b_M_findBelow 126 = .ok (.aload_n 0, 1) := by decide +kernel
theorem d_M_findBelow_127 : decode b_M_findBelow 127 = .ok (.getfield 32, 3) := by decide +kernel
theorem d_M_findBelow_130 : decode b_M_findBelow 130 = .ok (.bipush 12, 2) := by decide +kernel
theorem d_M_findBelow_132 : decode b_M_findBelow 132 = .ok (.iload_n 2, 1) := by decide +kernel
theorem d_M_findBelow_133 : decode b_M_findBelow 133 = .ok (.bipush 12, 2) := by decide +kernel
theorem d_M_findBelow_135 : decode b_M_findBelow 135 = .ok (.idiv, 1) := by decide +kernel
theorem d_M_findBelow_136 : decode b_M_findBelow 136 = .ok (.imul, 1) := by decide +kernel
theorem d_M_findBelow_137 : decode b_M_findBelow 137 = .ok (.iload_n 1, 1) := by decide +kernel
theorem d_M_findBelow_138 : decode b_M_findBelow 138 = .ok (.iadd, 1) := by decide +kernel
theorem d_M_findBelow_139 : decode b_M_findBelow 139 = .ok (.baload, 1) := by decide +kernel
theorem d_M_findBelow_140 : decode b_M_findBelow 140 = .ok (.ifCond .eq 24, 3) := by decide +kernel
theorem d_M_findBelow_143 : decode b_M_findBelow 143 = .ok (.aload_n 0, 1) := by decide +kernel
theorem d_M_findBelow_144 : decode b_M_findBelow 144 = .ok (.getfield 32, 3) := by decide +kernel
theorem d_M_findBelow_147 : decode b_M_findBelow 147 = .ok (.bipush 12, 2) := by decide +kernel
theorem d_M_findBelow_149 : decode b_M_findBelow 149 = .ok (.iload_n 1, 1) := by decide +kernel
theorem d_M_findBelow_150 : decode b_M_findBelow 150 = .ok (.imul, 1) := by decide +kernel
theorem d_M_findBelow_151 : decode b_M_findBelow 151 = .ok (.iload_n 2, 1) := by decide +kernel
theorem d_M_findBelow_152 : decode b_M_findBelow 152 = .ok (.bipush 12, 2) := by decide +kernel
theorem d_M_findBelow_154 : decode b_M_findBelow 154 = .ok (.irem, 1) := by decide +kernel
theorem d_M_findBelow_155 : decode b_M_findBelow 155 = .ok (.iadd, 1) := by decide +kernel
theorem d_M_findBelow_156 : decode b_M_findBelow 156 = .ok (.baload, 1) := by decide +kernel
theorem d_M_findBelow_157 : decode b_M_findBelow 157 = .ok (.ifCond .eq 7, 3) := by decide +kernel
theorem d_M_findBelow_160 : decode b_M_findBelow 160 = .ok (.iconst 1, 1) := by decide +kernel
theorem d_M_findBelow_161 : decode b_M_findBelow 161 = .ok (.goto 4, 3) := by decide +kernel
theorem d_M_findBelow_164 : decode b_M_findBelow 164 = .ok (.iconst 0, 1) := by decide +kernel
theorem d_M_findBelow_165 : decode b_M_findBelow 165 = .ok (.bastore, 1) := by decide +kernel
theorem d_M_findBelow_166 : decode b_M_findBelow 166 = .ok (.iinc 2 1, 3) := by decide +kernel
theorem d_M_findBelow_169 : decode b_M_findBelow 169 = .ok (.goto (-64), 3) := by decide +kernel
theorem d_M_findBelow_172 : decode b_M_findBelow 172 = .ok (.iinc 1 1, 3) := by decide +kernel
theorem d_M_findBelow_175 : decode b_M_findBelow 175 = .ok (.goto (-80), 3) := by decide +kernel
theorem d_M_findBelow_178 : decode b_M_findBelow 178 = .ok (.return_, 1) := by decide +kernel
def rm_M_findBelow : Room := { frames := 0, cells := 0, slots := 0, locals := 0 }
def f_M_findBelow_81 (fu : Nat) (k24 : Nat → Int32 → List va_E → Option (List va_E)) (k36 : Nat → Int32 → Int32 → List va_E → Option (List va_E)) (v0 : Nat) (v1 : Int32) (v2 : Int32) (w : List va_E) : Option (List va_E) := (k36 (v0) (v1) ((v2 + (1 : Int32))) w)
def f_M_findBelow_36 (fu : Nat) (k24 : Nat → Int32 → List va_E → Option (List va_E)) : Nat → Nat → Int32 → Int32 → List va_E → Option (List va_E)
  | 0, _, _, _, _ => none
  | n + 1, v0, v1, v2, w => ((hp_gr w v0 7 7).bind fun q1 => ((hp_ri w q1 v1).bind fun x2 => (if (((4 : Int32) * v1) + x2) ≤ v2 then (k24 (v0) ((v1 + (1 : Int32))) w) else ((hp_gr w v0 7 8).bind fun q3 => ((hp_ri w q3 v2).bind fun x4 => (if x4 < (16 : Int32) then (f_M_findBelow_81 fu k24 (f_M_findBelow_36 fu k24 n) (v0) (v1) (v2) w) else ((hp_gr w v0 7 10).bind fun q5 => ((hp_gr w v0 7 8).bind fun q6 => ((hp_ri w q6 v2).bind fun x7 => ((hp_wz w q5 ((((12 : Int32) * v1) + x7) - (16 : Int32)) (1 : Int32)).bind fun w8 => (f_M_findBelow_81 fu k24 (f_M_findBelow_36 fu k24 n) (v0) (v1) (v2) w8)))))))))))
def f_M_findBelow_165 (fu : Nat) (k95 : Nat → Int32 → List va_E → Option (List va_E)) (k105 : Nat → Int32 → Int32 → List va_E → Option (List va_E)) (v0 : Nat) (v1 : Int32) (v2 : Int32) (s0 : Nat) (s1 : Int32) (s2 : Int32) (w : List va_E) : Option (List va_E) := ((hp_wz w s0 s1 s2).bind fun w1 => (k105 (v0) (v1) ((v2 + (1 : Int32))) w1))
def f_M_findBelow_160 (fu : Nat) (k95 : Nat → Int32 → List va_E → Option (List va_E)) (k105 : Nat → Int32 → Int32 → List va_E → Option (List va_E)) (v0 : Nat) (v1 : Int32) (v2 : Int32) (s0 : Nat) (s1 : Int32) (w : List va_E) : Option (List va_E) := (f_M_findBelow_165 fu k95 k105 (v0) (v1) (v2) (s0) (s1) ((1 : Int32)) w)
def f_M_findBelow_164 (fu : Nat) (k95 : Nat → Int32 → List va_E → Option (List va_E)) (k105 : Nat → Int32 → Int32 → List va_E → Option (List va_E)) (v0 : Nat) (v1 : Int32) (v2 : Int32) (s0 : Nat) (s1 : Int32) (w : List va_E) : Option (List va_E) := (f_M_findBelow_165 fu k95 k105 (v0) (v1) (v2) (s0) (s1) ((0 : Int32)) w)
def f_M_findBelow_105 (fu : Nat) (k95 : Nat → Int32 → List va_E → Option (List va_E)) : Nat → Nat → Int32 → Int32 → List va_E → Option (List va_E)
  | 0, _, _, _, _ => none
  | n + 1, v0, v1, v2, w => (if (144 : Int32) ≤ v2 then (k95 (v0) ((v1 + (1 : Int32))) w) else ((hp_gr w v0 7 10).bind fun q1 => ((hp_gr w v0 7 10).bind fun q2 => ((hp_rz w q2 v2).bind fun x3 => (if x3 = 0 then ((hp_gr w v0 7 10).bind fun q4 => ((hp_rz w q4 (((12 : Int32) * (v2 / (12 : Int32))) + v1)).bind fun x5 => (if x5 = 0 then (f_M_findBelow_164 fu k95 (f_M_findBelow_105 fu k95 n) (v0) (v1) (v2) (q1) (v2) w) else ((hp_gr w v0 7 10).bind fun q6 => ((hp_rz w q6 (((12 : Int32) * v1) + (v2 - v2 / (12 : Int32) * (12 : Int32)))).bind fun x7 => (if x7 = 0 then (f_M_findBelow_164 fu k95 (f_M_findBelow_105 fu k95 n) (v0) (v1) (v2) (q1) (v2) w) else (f_M_findBelow_160 fu k95 (f_M_findBelow_105 fu k95 n) (v0) (v1) (v2) (q1) (v2) w))))))) else (f_M_findBelow_160 fu k95 (f_M_findBelow_105 fu k95 n) (v0) (v1) (v2) (q1) (v2) w))))))
def f_M_findBelow_95 (fu : Nat) : Nat → Nat → Int32 → List va_E → Option (List va_E)
  | 0, _, _, _ => none
  | n + 1, v0, v1, w => ((hp_gi w v0 7 4).bind fun x1 => (if x1 ≤ v1 then (some w) else (f_M_findBelow_105 fu (f_M_findBelow_95 fu n) fu (v0) (v1) ((0 : Int32)) w)))
def f_M_findBelow_24 (fu : Nat) : Nat → Nat → Int32 → List va_E → Option (List va_E)
  | 0, _, _, _ => none
  | n + 1, v0, v1, w => ((hp_gi w v0 7 4).bind fun x1 => (if x1 ≤ v1 then (f_M_findBelow_95 fu fu (v0) ((0 : Int32)) w) else (f_M_findBelow_36 fu (f_M_findBelow_24 fu n) fu (v0) (v1) (((4 : Int32) * v1)) w)))
def f_M_findBelow_2 (fu : Nat) : Nat → Nat → Int32 → List va_E → Option (List va_E)
  | 0, _, _, _ => none
  | n + 1, v0, v1, w => (if (144 : Int32) ≤ v1 then (f_M_findBelow_24 fu fu (v0) ((0 : Int32)) w) else ((hp_gr w v0 7 10).bind fun q1 => ((hp_wz w q1 v1 (0 : Int32)).bind fun w2 => (f_M_findBelow_2 fu n (v0) ((v1 + (1 : Int32))) w2))))
def f_M_findBelow (fu : Nat) (v0 : Nat) (w : List va_E) : Option (List va_E) := (f_M_findBelow_2 fu fu (v0) ((0 : Int32)) w)
section
variable {p : Program} {l : Launch} {e : Env} {s : State} {m : MethodId} {args : Array Value} {below : List Frame} {meth : Method} {c : Code} {D : va_G} {ca : Nat → Nat} {A : Nat → Prop} {ad : Nat → Nat}
set_option maxRecDepth 100000 in
set_option maxHeartbeats 4000000 in
theorem v_M_findBelow_81 (K : av_K p s m args meth c D cl8 ca A b_M_findBelow 3 R_M WS) (G : av_G NS tabON A s s.heap) (hr : meth.sig.returnType = none) (fu : Nat) {r : List va_E} (k24 : Nat → Int32 → List va_E → Option (List va_E)) (k36 : Nat → Int32 → Int32 → List va_E → Option (List va_E)) (hk24 : ∀ (v0 : Nat) (v1 : Int32) (w : List va_E), k24 v0 v1 w = some r → av_VV p l e rm_M_findBelow s m args below meth c D cl8 A ad ca 3 r 24 [some (.ref v0), some (.int v1), none] [] w) (hk36 : ∀ (v0 : Nat) (v1 : Int32) (v2 : Int32) (w : List va_E), k36 v0 v1 v2 w = some r → av_VV p l e rm_M_findBelow s m args below meth c D cl8 A ad ca 3 r 36 [some (.ref v0), some (.int v1), some (.int v2)] [] w) (v0 : Nat) (v1 : Int32) (v2 : Int32) (w : List va_E) (h : f_M_findBelow_81 fu k24 k36 v0 v1 v2 w = some r) : av_VV p l e rm_M_findBelow s m args below meth c D cl8 A ad ca 3 r 81 [some (.ref v0), some (.int v1), some (.int v2)] [] w := by
  unfold f_M_findBelow_81 at h
  refine av_iinc (v := (v2 + (1 : Int32))) (L' := [some (.ref v0), some (.int v1), some (.int (v2 + (1 : Int32)))]) K d_M_findBelow_81 rfl (congrArg (fun z => v2 + z) (show Int32.ofInt 1 = (1 : Int32) by decide)) (Nat.le_of_ble_eq_true rfl) rfl ?_
  refine av_goto (tgt := 36) K d_M_findBelow_84 rfl ?_
  exact hk36 (v0) (v1) ((v2 + (1 : Int32))) _ h
set_option maxRecDepth 100000 in
set_option maxHeartbeats 4000000 in
theorem v_M_findBelow_36 (K : av_K p s m args meth c D cl8 ca A b_M_findBelow 3 R_M WS) (G : av_G NS tabON A s s.heap) (hr : meth.sig.returnType = none) (fu : Nat) {r : List va_E} (k24 : Nat → Int32 → List va_E → Option (List va_E)) (hk24 : ∀ (v0 : Nat) (v1 : Int32) (w : List va_E), k24 v0 v1 w = some r → av_VV p l e rm_M_findBelow s m args below meth c D cl8 A ad ca 3 r 24 [some (.ref v0), some (.int v1), none] [] w) : ∀ (n : Nat) (v0 : Nat) (v1 : Int32) (v2 : Int32) (w : List va_E), f_M_findBelow_36 fu k24 n v0 v1 v2 w = some r → av_VV p l e rm_M_findBelow s m args below meth c D cl8 A ad ca 3 r 36 [some (.ref v0), some (.int v1), some (.int v2)] [] w := by
  intro n
  induction n with
  | zero => intro _ _ _ _ h; cases h
  | succ n ih =>
    intro v0 v1 v2 w h
    unfold f_M_findBelow_36 at h
    refine av_iload_n K d_M_findBelow_36 rfl rfl ?_
    refine av_iconst (v := (4 : Int32)) K d_M_findBelow_37 (by decide) ?_
    refine av_iload_n K d_M_findBelow_38 rfl rfl ?_
    refine av_imul K d_M_findBelow_39 ?_
    refine av_aload_n K d_M_findBelow_40 rfl rfl ?_
    obtain ⟨q1, eq1, h⟩ := hp_bd h
    refine hv_gr K fl_M_22 d_M_findBelow_41 eq1 ?_
    refine av_iload_n K d_M_findBelow_44 rfl rfl ?_
    obtain ⟨x2, ex2, h⟩ := hp_bd h
    refine hv_ri K d_M_findBelow_45 ex2 ?_
    refine av_iadd K d_M_findBelow_46 ?_
    refine av_icmp_ge (tgt := 87) K d_M_findBelow_47 rfl (fun hc => ?_) (fun hc => ?_)
    · rw [if_pos hc] at h
      refine av_iinc (v := (v1 + (1 : Int32))) (L' := [some (.ref v0), some (.int (v1 + (1 : Int32))), some (.int v2)]) K d_M_findBelow_87 rfl (congrArg (fun z => v1 + z) (show Int32.ofInt 1 = (1 : Int32) by decide)) (Nat.le_of_ble_eq_true rfl) rfl ?_
      refine av_goto (tgt := 24) K d_M_findBelow_90 rfl ?_
      refine hv_fg (L' := [some (.ref v0), some (.int (v1 + (1 : Int32))), none]) [2] rfl ?_
      exact hk24 (v0) ((v1 + (1 : Int32))) _ h
    · rw [if_neg hc] at h
      refine av_aload_n K d_M_findBelow_50 rfl rfl ?_
      obtain ⟨q3, eq3, h⟩ := hp_bd h
      refine hv_gr K fl_M_25 d_M_findBelow_51 eq3 ?_
      refine av_iload_n K d_M_findBelow_54 rfl rfl ?_
      obtain ⟨x4, ex4, h⟩ := hp_bd h
      refine hv_ri K d_M_findBelow_55 ex4 ?_
      refine av_bipush (v := (16 : Int32)) K d_M_findBelow_56 (by decide) ?_
      refine av_icmp_lt (tgt := 81) K d_M_findBelow_58 rfl (fun hc => ?_) (fun hc => ?_)
      · rw [if_pos hc] at h
        exact v_M_findBelow_81 K G hr fu k24 (f_M_findBelow_36 fu k24 n) hk24 ih (v0) (v1) (v2) _ h
      · rw [if_neg hc] at h
        refine av_aload_n K d_M_findBelow_61 rfl rfl ?_
        obtain ⟨q5, eq5, h⟩ := hp_bd h
        refine hv_gr K fl_M_32 d_M_findBelow_62 eq5 ?_
        refine av_bipush (v := (12 : Int32)) K d_M_findBelow_65 (by decide) ?_
        refine av_iload_n K d_M_findBelow_67 rfl rfl ?_
        refine av_imul K d_M_findBelow_68 ?_
        refine av_aload_n K d_M_findBelow_69 rfl rfl ?_
        obtain ⟨q6, eq6, h⟩ := hp_bd h
        refine hv_gr K fl_M_25 d_M_findBelow_70 eq6 ?_
        refine av_iload_n K d_M_findBelow_73 rfl rfl ?_
        obtain ⟨x7, ex7, h⟩ := hp_bd h
        refine hv_ri K d_M_findBelow_74 ex7 ?_
        refine av_iadd K d_M_findBelow_75 ?_
        refine av_bipush (v := (16 : Int32)) K d_M_findBelow_76 (by decide) ?_
        refine av_isub K d_M_findBelow_78 ?_
        refine av_iconst (v := (1 : Int32)) K d_M_findBelow_79 (by decide) ?_
        obtain ⟨w8, ew8, h⟩ := hp_bd h
        refine hv_wz K d_M_findBelow_80 ew8 ?_
        exact v_M_findBelow_81 K G hr fu k24 (f_M_findBelow_36 fu k24 n) hk24 ih (v0) (v1) (v2) _ h
set_option maxRecDepth 100000 in
set_option maxHeartbeats 4000000 in
theorem v_M_findBelow_165 (K : av_K p s m args meth c D cl8 ca A b_M_findBelow 3 R_M WS) (G : av_G NS tabON A s s.heap) (hr : meth.sig.returnType = none) (fu : Nat) {r : List va_E} (k95 : Nat → Int32 → List va_E → Option (List va_E)) (k105 : Nat → Int32 → Int32 → List va_E → Option (List va_E)) (hk95 : ∀ (v0 : Nat) (v1 : Int32) (w : List va_E), k95 v0 v1 w = some r → av_VV p l e rm_M_findBelow s m args below meth c D cl8 A ad ca 3 r 95 [some (.ref v0), some (.int v1), none] [] w) (hk105 : ∀ (v0 : Nat) (v1 : Int32) (v2 : Int32) (w : List va_E), k105 v0 v1 v2 w = some r → av_VV p l e rm_M_findBelow s m args below meth c D cl8 A ad ca 3 r 105 [some (.ref v0), some (.int v1), some (.int v2)] [] w) (v0 : Nat) (v1 : Int32) (v2 : Int32) (s0 : Nat) (s1 : Int32) (s2 : Int32) (w : List va_E) (h : f_M_findBelow_165 fu k95 k105 v0 v1 v2 s0 s1 s2 w = some r) : av_VV p l e rm_M_findBelow s m args below meth c D cl8 A ad ca 3 r 165 [some (.ref v0), some (.int v1), some (.int v2)] [.int s2, .int s1, .ref s0] w := by
  unfold f_M_findBelow_165 at h
  obtain ⟨w1, ew1, h⟩ := hp_bd h
  refine hv_wz K d_M_findBelow_165 ew1 ?_
  refine av_iinc (v := (v2 + (1 : Int32))) (L' := [some (.ref v0), some (.int v1), some (.int (v2 + (1 : Int32)))]) K d_M_findBelow_166 rfl (congrArg (fun z => v2 + z) (show Int32.ofInt 1 = (1 : Int32) by decide)) (Nat.le_of_ble_eq_true rfl) rfl ?_
  refine av_goto (tgt := 105) K d_M_findBelow_169 rfl ?_
  exact hk105 (v0) (v1) ((v2 + (1 : Int32))) _ h
set_option maxRecDepth 100000 in
set_option maxHeartbeats 4000000 in
theorem v_M_findBelow_160 (K : av_K p s m args meth c D cl8 ca A b_M_findBelow 3 R_M WS) (G : av_G NS tabON A s s.heap) (hr : meth.sig.returnType = none) (fu : Nat) {r : List va_E} (k95 : Nat → Int32 → List va_E → Option (List va_E)) (k105 : Nat → Int32 → Int32 → List va_E → Option (List va_E)) (hk95 : ∀ (v0 : Nat) (v1 : Int32) (w : List va_E), k95 v0 v1 w = some r → av_VV p l e rm_M_findBelow s m args below meth c D cl8 A ad ca 3 r 95 [some (.ref v0), some (.int v1), none] [] w) (hk105 : ∀ (v0 : Nat) (v1 : Int32) (v2 : Int32) (w : List va_E), k105 v0 v1 v2 w = some r → av_VV p l e rm_M_findBelow s m args below meth c D cl8 A ad ca 3 r 105 [some (.ref v0), some (.int v1), some (.int v2)] [] w) (v0 : Nat) (v1 : Int32) (v2 : Int32) (s0 : Nat) (s1 : Int32) (w : List va_E) (h : f_M_findBelow_160 fu k95 k105 v0 v1 v2 s0 s1 w = some r) : av_VV p l e rm_M_findBelow s m args below meth c D cl8 A ad ca 3 r 160 [some (.ref v0), some (.int v1), some (.int v2)] [.int s1, .ref s0] w := by
  unfold f_M_findBelow_160 at h
  refine av_iconst (v := (1 : Int32)) K d_M_findBelow_160 (by decide) ?_
  refine av_goto (tgt := 165) K d_M_findBelow_161 rfl ?_
  exact v_M_findBelow_165 K G hr fu k95 k105 hk95 hk105 (v0) (v1) (v2) (s0) (s1) ((1 : Int32)) _ h
set_option maxRecDepth 100000 in
set_option maxHeartbeats 4000000 in
theorem v_M_findBelow_164 (K : av_K p s m args meth c D cl8 ca A b_M_findBelow 3 R_M WS) (G : av_G NS tabON A s s.heap) (hr : meth.sig.returnType = none) (fu : Nat) {r : List va_E} (k95 : Nat → Int32 → List va_E → Option (List va_E)) (k105 : Nat → Int32 → Int32 → List va_E → Option (List va_E)) (hk95 : ∀ (v0 : Nat) (v1 : Int32) (w : List va_E), k95 v0 v1 w = some r → av_VV p l e rm_M_findBelow s m args below meth c D cl8 A ad ca 3 r 95 [some (.ref v0), some (.int v1), none] [] w) (hk105 : ∀ (v0 : Nat) (v1 : Int32) (v2 : Int32) (w : List va_E), k105 v0 v1 v2 w = some r → av_VV p l e rm_M_findBelow s m args below meth c D cl8 A ad ca 3 r 105 [some (.ref v0), some (.int v1), some (.int v2)] [] w) (v0 : Nat) (v1 : Int32) (v2 : Int32) (s0 : Nat) (s1 : Int32) (w : List va_E) (h : f_M_findBelow_164 fu k95 k105 v0 v1 v2 s0 s1 w = some r) : av_VV p l e rm_M_findBelow s m args below meth c D cl8 A ad ca 3 r 164 [some (.ref v0), some (.int v1), some (.int v2)] [.int s1, .ref s0] w := by
  unfold f_M_findBelow_164 at h
  refine av_iconst (v := (0 : Int32)) K d_M_findBelow_164 (by decide) ?_
  exact v_M_findBelow_165 K G hr fu k95 k105 hk95 hk105 (v0) (v1) (v2) (s0) (s1) ((0 : Int32)) _ h
set_option maxRecDepth 100000 in
set_option maxHeartbeats 4000000 in
theorem v_M_findBelow_105 (K : av_K p s m args meth c D cl8 ca A b_M_findBelow 3 R_M WS) (G : av_G NS tabON A s s.heap) (hr : meth.sig.returnType = none) (fu : Nat) {r : List va_E} (k95 : Nat → Int32 → List va_E → Option (List va_E)) (hk95 : ∀ (v0 : Nat) (v1 : Int32) (w : List va_E), k95 v0 v1 w = some r → av_VV p l e rm_M_findBelow s m args below meth c D cl8 A ad ca 3 r 95 [some (.ref v0), some (.int v1), none] [] w) : ∀ (n : Nat) (v0 : Nat) (v1 : Int32) (v2 : Int32) (w : List va_E), f_M_findBelow_105 fu k95 n v0 v1 v2 w = some r → av_VV p l e rm_M_findBelow s m args below meth c D cl8 A ad ca 3 r 105 [some (.ref v0), some (.int v1), some (.int v2)] [] w := by
  intro n
  induction n with
  | zero => intro _ _ _ _ h; cases h
  | succ n ih =>
    intro v0 v1 v2 w h
    unfold f_M_findBelow_105 at h
    refine av_iload_n K d_M_findBelow_105 rfl rfl ?_
    refine av_sipush (v := (144 : Int32)) K d_M_findBelow_106 (by decide) ?_
    refine av_icmp_ge (tgt := 172) K d_M_findBelow_109 rfl (fun hc => ?_) (fun hc => ?_)
    · rw [if_pos hc] at h
      refine av_iinc (v := (v1 + (1 : Int32))) (L' := [some (.ref v0), some (.int (v1 + (1 : Int32))), some (.int v2)]) K d_M_findBelow_172 rfl (congrArg (fun z => v1 + z) (show Int32.ofInt 1 = (1 : Int32) by decide)) (Nat.le_of_ble_eq_true rfl) rfl ?_
      refine av_goto (tgt := 95) K d_M_findBelow_175 rfl ?_
      refine hv_fg (L' := [some (.ref v0), some (.int (v1 + (1 : Int32))), none]) [2] rfl ?_
      exact hk95 (v0) ((v1 + (1 : Int32))) _ h
    · rw [if_neg hc] at h
      refine av_aload_n K d_M_findBelow_112 rfl rfl ?_
      obtain ⟨q1, eq1, h⟩ := hp_bd h
      refine hv_gr K fl_M_32 d_M_findBelow_113 eq1 ?_
      refine av_iload_n K d_M_findBelow_116 rfl rfl ?_
      refine av_aload_n K d_M_findBelow_117 rfl rfl ?_
      obtain ⟨q2, eq2, h⟩ := hp_bd h
      refine hv_gr K fl_M_32 d_M_findBelow_118 eq2 ?_
      refine av_iload_n K d_M_findBelow_121 rfl rfl ?_
      obtain ⟨x3, ex3, h⟩ := hp_bd h
      refine hv_rz K d_M_findBelow_122 ex3 ?_
      refine av_if_ne (tgt := 160) K d_M_findBelow_123 rfl (fun hc => ?_) (fun hc => ?_)
      · rw [if_neg hc] at h
        exact v_M_findBelow_160 K G hr fu k95 (f_M_findBelow_105 fu k95 n) hk95 ih (v0) (v1) (v2) (q1) (v2) _ h
      · rw [if_pos hc] at h
        refine av_aload_n K d_M_findBelow_126 rfl rfl ?_
        obtain ⟨q4, eq4, h⟩ := hp_bd h
        refine hv_gr K fl_M_32 d_M_findBelow_127 eq4 ?_
        refine av_bipush (v := (12 : Int32)) K d_M_findBelow_130 (by decide) ?_
        refine av_iload_n K d_M_findBelow_132 rfl rfl ?_
        refine av_bipush (v := (12 : Int32)) K d_M_findBelow_133 (by decide) ?_
        refine av_idiv K d_M_findBelow_135 (by decide) ?_
        refine av_imul K d_M_findBelow_136 ?_
        refine av_iload_n K d_M_findBelow_137 rfl rfl ?_
        refine av_iadd K d_M_findBelow_138 ?_
        obtain ⟨x5, ex5, h⟩ := hp_bd h
        refine hv_rz K d_M_findBelow_139 ex5 ?_
        refine av_if_eq (tgt := 164) K d_M_findBelow_140 rfl (fun hc => ?_) (fun hc => ?_)
        · rw [if_pos hc] at h
          exact v_M_findBelow_164 K G hr fu k95 (f_M_findBelow_105 fu k95 n) hk95 ih (v0) (v1) (v2) (q1) (v2) _ h
        · rw [if_neg hc] at h
          refine av_aload_n K d_M_findBelow_143 rfl rfl ?_
          obtain ⟨q6, eq6, h⟩ := hp_bd h
          refine hv_gr K fl_M_32 d_M_findBelow_144 eq6 ?_
          refine av_bipush (v := (12 : Int32)) K d_M_findBelow_147 (by decide) ?_
          refine av_iload_n K d_M_findBelow_149 rfl rfl ?_
          refine av_imul K d_M_findBelow_150 ?_
          refine av_iload_n K d_M_findBelow_151 rfl rfl ?_
          refine av_bipush (v := (12 : Int32)) K d_M_findBelow_152 (by decide) ?_
          refine av_irem K d_M_findBelow_154 (by decide) ?_
          refine av_iadd K d_M_findBelow_155 ?_
          obtain ⟨x7, ex7, h⟩ := hp_bd h
          refine hv_rz K d_M_findBelow_156 ex7 ?_
          refine av_if_eq (tgt := 164) K d_M_findBelow_157 rfl (fun hc => ?_) (fun hc => ?_)
          · rw [if_pos hc] at h
            exact v_M_findBelow_164 K G hr fu k95 (f_M_findBelow_105 fu k95 n) hk95 ih (v0) (v1) (v2) (q1) (v2) _ h
          · rw [if_neg hc] at h
            exact v_M_findBelow_160 K G hr fu k95 (f_M_findBelow_105 fu k95 n) hk95 ih (v0) (v1) (v2) (q1) (v2) _ h
set_option maxRecDepth 100000 in
set_option maxHeartbeats 4000000 in
theorem v_M_findBelow_95 (K : av_K p s m args meth c D cl8 ca A b_M_findBelow 3 R_M WS) (G : av_G NS tabON A s s.heap) (hr : meth.sig.returnType = none) (fu : Nat) {r : List va_E} : ∀ (n : Nat) (v0 : Nat) (v1 : Int32) (w : List va_E), f_M_findBelow_95 fu n v0 v1 w = some r → av_VV p l e rm_M_findBelow s m args below meth c D cl8 A ad ca 3 r 95 [some (.ref v0), some (.int v1), none] [] w := by
  intro n
  induction n with
  | zero => intro _ _ _ h; cases h
  | succ n ih =>
    intro v0 v1 w h
    unfold f_M_findBelow_95 at h
    refine av_iload_n K d_M_findBelow_95 rfl rfl ?_
    refine av_aload_n K d_M_findBelow_96 rfl rfl ?_
    obtain ⟨x1, ex1, h⟩ := hp_bd h
    refine hv_gi K fl_M_64 d_M_findBelow_97 ex1 ?_
    refine av_icmp_ge (tgt := 178) K d_M_findBelow_100 rfl (fun hc => ?_) (fun hc => ?_)
    · rw [if_pos hc] at h
      obtain rfl := Option.some.inj h
      exact av_return K hr d_M_findBelow_178 rfl
    · rw [if_neg hc] at h
      refine av_iconst (v := (0 : Int32)) K d_M_findBelow_103 (by decide) ?_
      refine av_istore_n (L' := [some (.ref v0), some (.int v1), some (.int (0 : Int32))]) K d_M_findBelow_104 rfl (Nat.le_of_ble_eq_true rfl) rfl ?_
      exact v_M_findBelow_105 K G hr fu (f_M_findBelow_95 fu n) ih fu (v0) (v1) ((0 : Int32)) _ h
set_option maxRecDepth 100000 in
set_option maxHeartbeats 4000000 in
theorem v_M_findBelow_24 (K : av_K p s m args meth c D cl8 ca A b_M_findBelow 3 R_M WS) (G : av_G NS tabON A s s.heap) (hr : meth.sig.returnType = none) (fu : Nat) {r : List va_E} : ∀ (n : Nat) (v0 : Nat) (v1 : Int32) (w : List va_E), f_M_findBelow_24 fu n v0 v1 w = some r → av_VV p l e rm_M_findBelow s m args below meth c D cl8 A ad ca 3 r 24 [some (.ref v0), some (.int v1), none] [] w := by
  intro n
  induction n with
  | zero => intro _ _ _ h; cases h
  | succ n ih =>
    intro v0 v1 w h
    unfold f_M_findBelow_24 at h
    refine av_iload_n K d_M_findBelow_24 rfl rfl ?_
    refine av_aload_n K d_M_findBelow_25 rfl rfl ?_
    obtain ⟨x1, ex1, h⟩ := hp_bd h
    refine hv_gi K fl_M_64 d_M_findBelow_26 ex1 ?_
    refine av_icmp_ge (tgt := 93) K d_M_findBelow_29 rfl (fun hc => ?_) (fun hc => ?_)
    · rw [if_pos hc] at h
      refine av_iconst (v := (0 : Int32)) K d_M_findBelow_93 (by decide) ?_
      refine av_istore_n (L' := [some (.ref v0), some (.int (0 : Int32)), none]) K d_M_findBelow_94 rfl (Nat.le_of_ble_eq_true rfl) rfl ?_
      exact v_M_findBelow_95 K G hr fu fu (v0) ((0 : Int32)) _ h
    · rw [if_neg hc] at h
      refine av_iconst (v := (4 : Int32)) K d_M_findBelow_32 (by decide) ?_
      refine av_iload_n K d_M_findBelow_33 rfl rfl ?_
      refine av_imul K d_M_findBelow_34 ?_
      refine av_istore_n (L' := [some (.ref v0), some (.int v1), some (.int ((4 : Int32) * v1))]) K d_M_findBelow_35 rfl (Nat.le_of_ble_eq_true rfl) rfl ?_
      exact v_M_findBelow_36 K G hr fu (f_M_findBelow_24 fu n) ih fu (v0) (v1) (((4 : Int32) * v1)) _ h
set_option maxRecDepth 100000 in
set_option maxHeartbeats 4000000 in
theorem v_M_findBelow_2 (K : av_K p s m args meth c D cl8 ca A b_M_findBelow 3 R_M WS) (G : av_G NS tabON A s s.heap) (hr : meth.sig.returnType = none) (fu : Nat) {r : List va_E} : ∀ (n : Nat) (v0 : Nat) (v1 : Int32) (w : List va_E), f_M_findBelow_2 fu n v0 v1 w = some r → av_VV p l e rm_M_findBelow s m args below meth c D cl8 A ad ca 3 r 2 [some (.ref v0), some (.int v1), none] [] w := by
  intro n
  induction n with
  | zero => intro _ _ _ h; cases h
  | succ n ih =>
    intro v0 v1 w h
    unfold f_M_findBelow_2 at h
    refine av_iload_n K d_M_findBelow_2 rfl rfl ?_
    refine av_sipush (v := (144 : Int32)) K d_M_findBelow_3 (by decide) ?_
    refine av_icmp_ge (tgt := 22) K d_M_findBelow_6 rfl (fun hc => ?_) (fun hc => ?_)
    · rw [if_pos hc] at h
      refine av_iconst (v := (0 : Int32)) K d_M_findBelow_22 (by decide) ?_
      refine av_istore_n (L' := [some (.ref v0), some (.int (0 : Int32)), none]) K d_M_findBelow_23 rfl (Nat.le_of_ble_eq_true rfl) rfl ?_
      exact v_M_findBelow_24 K G hr fu fu (v0) ((0 : Int32)) _ h
    · rw [if_neg hc] at h
      refine av_aload_n K d_M_findBelow_9 rfl rfl ?_
      obtain ⟨q1, eq1, h⟩ := hp_bd h
      refine hv_gr K fl_M_32 d_M_findBelow_10 eq1 ?_
      refine av_iload_n K d_M_findBelow_13 rfl rfl ?_
      refine av_iconst (v := (0 : Int32)) K d_M_findBelow_14 (by decide) ?_
      obtain ⟨w2, ew2, h⟩ := hp_bd h
      refine hv_wz K d_M_findBelow_15 ew2 ?_
      refine av_iinc (v := (v1 + (1 : Int32))) (L' := [some (.ref v0), some (.int (v1 + (1 : Int32))), none]) K d_M_findBelow_16 rfl (congrArg (fun z => v1 + z) (show Int32.ofInt 1 = (1 : Int32) by decide)) (Nat.le_of_ble_eq_true rfl) rfl ?_
      refine av_goto (tgt := 2) K d_M_findBelow_19 rfl ?_
      exact ih (v0) ((v1 + (1 : Int32))) _ h
set_option maxRecDepth 100000 in
set_option maxHeartbeats 4000000 in
theorem v_M_findBelow (K : av_K p s m args meth c D cl8 ca A b_M_findBelow 3 R_M WS) (G : av_G NS tabON A s s.heap) (hr : meth.sig.returnType = none) (fu : Nat) {r : List va_E} (v0 : Nat) (w : List va_E) (h : f_M_findBelow fu v0 w = some r) : av_VV p l e rm_M_findBelow s m args below meth c D cl8 A ad ca 3 r 0 [some (.ref v0), none, none] [] w := by
  unfold f_M_findBelow at h
  refine av_iconst (v := (0 : Int32)) K d_M_findBelow_0 (by decide) ?_
  refine av_istore_n (L' := [some (.ref v0), some (.int (0 : Int32)), none]) K d_M_findBelow_1 rfl (Nat.le_of_ble_eq_true rfl) rfl ?_
  exact v_M_findBelow_2 K G hr fu fu (v0) ((0 : Int32)) _ h
end
set_option maxRecDepth 100000 in
theorem c_M_findBelow {l : Launch} {D : va_G} {ca : Nat → Nat} {tab : Nat → Int64} {fu : Nat} {v0 : Nat} {w : List va_E} {r : List va_E} (h : f_M_findBelow fu v0 w = some r) : av_Cv l D cl8 ca NS tabON y_M_findBelow w_M_findBelow rm_M_findBelow [.ref v0] w (fun u => u = r) :=
  av_inV (cc := b_M_findBelow) (nL := 3) (by decide +kernel) rfl (Nat.le_of_ble_eq_true rfl) (fun p e s m args below meth c A ad K G hr => v_M_findBelow K G hr fu v0 w h)

-- FaultTreeDeskModel.hasChild(II)Z
theorem d_M_hasChild_0 : decode b_M_hasChild 0 = .ok (.iconst 0, 1) := by decide +kernel
theorem d_M_hasChild_1 : decode b_M_hasChild 1 = .ok (.istore_n 3, 1) := by decide +kernel
theorem d_M_hasChild_2 : decode b_M_hasChild 2 = .ok (.iconst 4, 1) := by decide +kernel
theorem d_M_hasChild_3 : decode b_M_hasChild 3 = .ok (.iload_n 1, 1) := by decide +kernel
theorem d_M_hasChild_4 : decode b_M_hasChild 4 = .ok (.imul, 1) := by decide +kernel
theorem d_M_hasChild_5 : decode b_M_hasChild 5 = .ok (.istore 4, 2) := by decide +kernel
theorem d_M_hasChild_7 : decode b_M_hasChild 7 = .ok (.iload 4, 2) := by decide +kernel
theorem d_M_hasChild_9 : decode b_M_hasChild 9 = .ok (.iconst 4, 1) := by decide +kernel
theorem d_M_hasChild_10 : decode b_M_hasChild 10 = .ok (.iload_n 1, 1) := by decide +kernel
theorem d_M_hasChild_11 : decode b_M_hasChild 11 = .ok (.imul, 1) := by decide +kernel
theorem d_M_hasChild_12 : decode b_M_hasChild 12 = .ok (.aload_n 0, 1) := by decide +kernel
theorem d_M_hasChild_13 : decode b_M_hasChild 13 = .ok (.getfield 22, 3) := by decide +kernel
theorem d_M_hasChild_16 : decode b_M_hasChild 16 = .ok (.iload_n 1, 1) := by decide +kernel
theorem d_M_hasChild_17 : decode b_M_hasChild 17 = .ok (.iaload, 1) := by decide +kernel
theorem d_M_hasChild_18 : decode b_M_hasChild 18 = .ok (.iadd, 1) := by decide +kernel
theorem d_M_hasChild_19 : decode b_M_hasChild 19 = .ok (.if_icmp .ge 30, 3) := by decide +kernel
theorem d_M_hasChild_22 : decode b_M_hasChild 22 = .ok (.iload_n 3, 1) := by decide +kernel
theorem d_M_hasChild_23 : decode b_M_hasChild 23 = .ok (.ifCond .ne 14, 3) := by decide +kernel
theorem d_M_hasChild_26 : decode b_M_hasChild 26 = .ok (.aload_n 0, 1) := by decide +kernel
theorem d_M_hasChild_27 : decode b_M_hasChild 27 = .ok (.getfield 25, 3) := by decide +kernel
theorem d_M_hasChild_30 : decode b_M_hasChild 30 = .ok (.iload 4, 2) := by decide +kernel
theorem d_M_hasChild_32 : decode b_M_hasChild 32 = .ok (.iaload, 1) := by decide +kernel
theorem d_M_hasChild_33 : decode b_M_hasChild 33 = .ok (.iload_n 2, 1) := by decide +kernel
theorem d_M_hasChild_34 : decode b_M_hasChild 34 = .ok (.if_icmp .ne 7, 3) := by decide +kernel
theorem d_M_hasChild_37 : decode b_M_hasChild 37 = .ok (.iconst 1, 1) := by decide +kernel
theorem d_M_hasChild_38 : decode b_M_hasChild 38 = .ok (.goto 4, 3) := by decide +kernel
theorem d_M_hasChild_41 : decode b_M_hasChild 41 = .ok (.iconst 0, 1) := by decide +kernel
theorem d_M_hasChild_42 : decode b_M_hasChild 42 = .ok (.istore_n 3, 1) := by decide +kernel
theorem d_M_hasChild_43 : decode b_M_hasChild 43 = .ok (.iinc 4 1, 3) := by decide +kernel
theorem d_M_hasChild_46 : decode b_M_hasChild 46 = .ok (.goto (-39), 3) := by decide +kernel
theorem d_M_hasChild_49 : decode b_M_hasChild 49 = .ok (.iload_n 3, 1) := by decide +kernel
theorem d_M_hasChild_50 : decode b_M_hasChild 50 = .ok (.ireturn, 1) := by decide +kernel
def rm_M_hasChild : Room := { frames := 0, cells := 0, slots := 0, locals := 0 }
def f_M_hasChild_42 (fu : Nat) (k7 : Nat → Int32 → Int32 → Int32 → Int32 → List va_E → Option (Int32 × List va_E)) (v0 : Nat) (v1 : Int32) (v2 : Int32) (v4 : Int32) (s0 : Int32) (w : List va_E) : Option (Int32 × List va_E) := (k7 (v0) (v1) (v2) (s0) ((v4 + (1 : Int32))) w)
def f_M_hasChild_37 (fu : Nat) (k7 : Nat → Int32 → Int32 → Int32 → Int32 → List va_E → Option (Int32 × List va_E)) (v0 : Nat) (v1 : Int32) (v2 : Int32) (v4 : Int32) (w : List va_E) : Option (Int32 × List va_E) := (f_M_hasChild_42 fu k7 (v0) (v1) (v2) (v4) ((1 : Int32)) w)
def f_M_hasChild_7 (fu : Nat) : Nat → Nat → Int32 → Int32 → Int32 → Int32 → List va_E → Option (Int32 × List va_E)
  | 0, _, _, _, _, _, _ => none
  | n + 1, v0, v1, v2, v3, v4, w => ((hp_gr w v0 7 7).bind fun q1 => ((hp_ri w q1 v1).bind fun x2 => (if (((4 : Int32) * v1) + x2) ≤ v4 then (if v3 = 0 ∨ v3 = 1 then some (v3, w) else none) else (if v3 = 0 then ((hp_gr w v0 7 8).bind fun q3 => ((hp_ri w q3 v4).bind fun x4 => (if x4 = v2 then (f_M_hasChild_37 fu (f_M_hasChild_7 fu n) (v0) (v1) (v2) (v4) w) else (f_M_hasChild_42 fu (f_M_hasChild_7 fu n) (v0) (v1) (v2) (v4) ((0 : Int32)) w)))) else (f_M_hasChild_37 fu (f_M_hasChild_7 fu n) (v0) (v1) (v2) (v4) w)))))
def f_M_hasChild (fu : Nat) (v0 : Nat) (v1 : Int32) (v2 : Int32) (w : List va_E) : Option (Int32 × List va_E) := (f_M_hasChild_7 fu fu (v0) (v1) (v2) ((0 : Int32)) (((4 : Int32) * v1)) w)
section
variable {p : Program} {l : Launch} {e : Env} {s : State} {m : MethodId} {args : Array Value} {below : List Frame} {meth : Method} {c : Code} {D : va_G} {ca : Nat → Nat} {A : Nat → Prop} {ad : Nat → Nat}
set_option maxRecDepth 100000 in
set_option maxHeartbeats 4000000 in
theorem v_M_hasChild_42 (K : av_K p s m args meth c D cl8 ca A b_M_hasChild 5 R_M WS) (G : av_G NS tabON A s s.heap) (hr : meth.sig.returnType = some .boolean) (fu : Nat) {r : Int32 × List va_E} (k7 : Nat → Int32 → Int32 → Int32 → Int32 → List va_E → Option (Int32 × List va_E)) (hk7 : ∀ (v0 : Nat) (v1 : Int32) (v2 : Int32) (v3 : Int32) (v4 : Int32) (w : List va_E), k7 v0 v1 v2 v3 v4 w = some r → av_VI p l e rm_M_hasChild s m args below meth c D cl8 A ad ca 5 r 7 [some (.ref v0), some (.int v1), some (.int v2), some (.int v3), some (.int v4)] [] w) (v0 : Nat) (v1 : Int32) (v2 : Int32) (v4 : Int32) (s0 : Int32) (w : List va_E) (h : f_M_hasChild_42 fu k7 v0 v1 v2 v4 s0 w = some r) : av_VI p l e rm_M_hasChild s m args below meth c D cl8 A ad ca 5 r 42 [some (.ref v0), some (.int v1), some (.int v2), none, some (.int v4)] [.int s0] w := by
  unfold f_M_hasChild_42 at h
  refine av_istore_n (L' := [some (.ref v0), some (.int v1), some (.int v2), some (.int s0), some (.int v4)]) K d_M_hasChild_42 rfl (Nat.le_of_ble_eq_true rfl) rfl ?_
  refine av_iinc (v := (v4 + (1 : Int32))) (L' := [some (.ref v0), some (.int v1), some (.int v2), some (.int s0), some (.int (v4 + (1 : Int32)))]) K d_M_hasChild_43 rfl (congrArg (fun z => v4 + z) (show Int32.ofInt 1 = (1 : Int32) by decide)) (Nat.le_of_ble_eq_true rfl) rfl ?_
  refine av_goto (tgt := 7) K d_M_hasChild_46 rfl ?_
  exact hk7 (v0) (v1) (v2) (s0) ((v4 + (1 : Int32))) _ h
set_option maxRecDepth 100000 in
set_option maxHeartbeats 4000000 in
theorem v_M_hasChild_37 (K : av_K p s m args meth c D cl8 ca A b_M_hasChild 5 R_M WS) (G : av_G NS tabON A s s.heap) (hr : meth.sig.returnType = some .boolean) (fu : Nat) {r : Int32 × List va_E} (k7 : Nat → Int32 → Int32 → Int32 → Int32 → List va_E → Option (Int32 × List va_E)) (hk7 : ∀ (v0 : Nat) (v1 : Int32) (v2 : Int32) (v3 : Int32) (v4 : Int32) (w : List va_E), k7 v0 v1 v2 v3 v4 w = some r → av_VI p l e rm_M_hasChild s m args below meth c D cl8 A ad ca 5 r 7 [some (.ref v0), some (.int v1), some (.int v2), some (.int v3), some (.int v4)] [] w) (v0 : Nat) (v1 : Int32) (v2 : Int32) (v4 : Int32) (w : List va_E) (h : f_M_hasChild_37 fu k7 v0 v1 v2 v4 w = some r) : av_VI p l e rm_M_hasChild s m args below meth c D cl8 A ad ca 5 r 37 [some (.ref v0), some (.int v1), some (.int v2), none, some (.int v4)] [] w := by
  unfold f_M_hasChild_37 at h
  refine av_iconst (v := (1 : Int32)) K d_M_hasChild_37 (by decide) ?_
  refine av_goto (tgt := 42) K d_M_hasChild_38 rfl ?_
  exact v_M_hasChild_42 K G hr fu k7 hk7 (v0) (v1) (v2) (v4) ((1 : Int32)) _ h
set_option maxRecDepth 100000 in
set_option maxHeartbeats 4000000 in
theorem v_M_hasChild_7 (K : av_K p s m args meth c D cl8 ca A b_M_hasChild 5 R_M WS) (G : av_G NS tabON A s s.heap) (hr : meth.sig.returnType = some .boolean) (fu : Nat) {r : Int32 × List va_E} : ∀ (n : Nat) (v0 : Nat) (v1 : Int32) (v2 : Int32) (v3 : Int32) (v4 : Int32) (w : List va_E), f_M_hasChild_7 fu n v0 v1 v2 v3 v4 w = some r → av_VI p l e rm_M_hasChild s m args below meth c D cl8 A ad ca 5 r 7 [some (.ref v0), some (.int v1), some (.int v2), some (.int v3), some (.int v4)] [] w := by
  intro n
  induction n with
  | zero => intro _ _ _ _ _ _ h; cases h
  | succ n ih =>
    intro v0 v1 v2 v3 v4 w h
    unfold f_M_hasChild_7 at h
    refine av_iload K d_M_hasChild_7 rfl ?_
    refine av_iconst (v := (4 : Int32)) K d_M_hasChild_9 (by decide) ?_
    refine av_iload_n K d_M_hasChild_10 rfl rfl ?_
    refine av_imul K d_M_hasChild_11 ?_
    refine av_aload_n K d_M_hasChild_12 rfl rfl ?_
    obtain ⟨q1, eq1, h⟩ := hp_bd h
    refine hv_gr K fl_M_22 d_M_hasChild_13 eq1 ?_
    refine av_iload_n K d_M_hasChild_16 rfl rfl ?_
    obtain ⟨x2, ex2, h⟩ := hp_bd h
    refine hv_ri K d_M_hasChild_17 ex2 ?_
    refine av_iadd K d_M_hasChild_18 ?_
    refine av_icmp_ge (tgt := 49) K d_M_hasChild_19 rfl (fun hc => ?_) (fun hc => ?_)
    · rw [if_pos hc] at h
      refine av_iload_n K d_M_hasChild_49 rfl rfl ?_
      obtain ⟨hz, h⟩ := hp_if h
      obtain rfl := Option.some.inj h
      exact av_zreturn K hr (hp_nz hz) d_M_hasChild_50 rfl
    · rw [if_neg hc] at h
      refine av_iload_n K d_M_hasChild_22 rfl rfl ?_
      refine av_if_ne (tgt := 37) K d_M_hasChild_23 rfl (fun hc => ?_) (fun hc => ?_)
      · rw [if_neg hc] at h
        refine hv_fg (L' := [some (.ref v0), some (.int v1), some (.int v2), none, some (.int v4)]) [3] rfl ?_
        exact v_M_hasChild_37 K G hr fu (f_M_hasChild_7 fu n) ih (v0) (v1) (v2) (v4) _ h
      · rw [if_pos hc] at h
        refine av_aload_n K d_M_hasChild_26 rfl rfl ?_
        obtain ⟨q3, eq3, h⟩ := hp_bd h
        refine hv_gr K fl_M_25 d_M_hasChild_27 eq3 ?_
        refine av_iload K d_M_hasChild_30 rfl ?_
        obtain ⟨x4, ex4, h⟩ := hp_bd h
        refine hv_ri K d_M_hasChild_32 ex4 ?_
        refine av_iload_n K d_M_hasChild_33 rfl rfl ?_
        refine av_icmp_ne (tgt := 41) K d_M_hasChild_34 rfl (fun hc => ?_) (fun hc => ?_)
        · rw [if_neg hc] at h
          refine av_iconst (v := (0 : Int32)) K d_M_hasChild_41 (by decide) ?_
          refine hv_fg (L' := [some (.ref v0), some (.int v1), some (.int v2), none, some (.int v4)]) [3] rfl ?_
          exact v_M_hasChild_42 K G hr fu (f_M_hasChild_7 fu n) ih (v0) (v1) (v2) (v4) ((0 : Int32)) _ h
        · rw [if_pos hc] at h
          refine hv_fg (L' := [some (.ref v0), some (.int v1), some (.int v2), none, some (.int v4)]) [3] rfl ?_
          exact v_M_hasChild_37 K G hr fu (f_M_hasChild_7 fu n) ih (v0) (v1) (v2) (v4) _ h
set_option maxRecDepth 100000 in
set_option maxHeartbeats 4000000 in
theorem v_M_hasChild (K : av_K p s m args meth c D cl8 ca A b_M_hasChild 5 R_M WS) (G : av_G NS tabON A s s.heap) (hr : meth.sig.returnType = some .boolean) (fu : Nat) {r : Int32 × List va_E} (v0 : Nat) (v1 : Int32) (v2 : Int32) (w : List va_E) (h : f_M_hasChild fu v0 v1 v2 w = some r) : av_VI p l e rm_M_hasChild s m args below meth c D cl8 A ad ca 5 r 0 [some (.ref v0), some (.int v1), some (.int v2), none, none] [] w := by
  unfold f_M_hasChild at h
  refine av_iconst (v := (0 : Int32)) K d_M_hasChild_0 (by decide) ?_
  refine av_istore_n (L' := [some (.ref v0), some (.int v1), some (.int v2), some (.int (0 : Int32)), none]) K d_M_hasChild_1 rfl (Nat.le_of_ble_eq_true rfl) rfl ?_
  refine av_iconst (v := (4 : Int32)) K d_M_hasChild_2 (by decide) ?_
  refine av_iload_n K d_M_hasChild_3 rfl rfl ?_
  refine av_imul K d_M_hasChild_4 ?_
  refine av_istore (L' := [some (.ref v0), some (.int v1), some (.int v2), some (.int (0 : Int32)), some (.int ((4 : Int32) * v1))]) K d_M_hasChild_5 (Nat.le_of_ble_eq_true rfl) rfl ?_
  exact v_M_hasChild_7 K G hr fu fu (v0) (v1) (v2) ((0 : Int32)) (((4 : Int32) * v1)) _ h
end
set_option maxRecDepth 100000 in
theorem c_M_hasChild {l : Launch} {D : va_G} {ca : Nat → Nat} {tab : Nat → Int64} {fu : Nat} {v0 : Nat} {v1 : Int32} {v2 : Int32} {w : List va_E} {r : Int32 × List va_E} (h : f_M_hasChild fu v0 v1 v2 w = some r) : av_Ci l D cl8 ca NS tabON y_M_hasChild w_M_hasChild rm_M_hasChild [.ref v0, .int v1, .int v2] w (fun v u => (v, u) = r) :=
  av_inI (cc := b_M_hasChild) (nL := 5) (by decide +kernel) rfl (Nat.le_of_ble_eq_true rfl) (fun p e s m args below meth c A ad K G hr => v_M_hasChild K G hr fu v0 v1 v2 w h)

-- FaultTreeDeskModel.input(II)I
theorem d_M_input_0 : decode b_M_input 0 = .ok (.aload_n 0, 1) := by decide +kernel
theorem d_M_input_1 : decode b_M_input 1 = .ok (.iload_n 1, 1) := by decide +kernel
theorem d_M_input_2 : decode b_M_input 2 = .ok (.invokevirtual 71, 3) := by decide +kernel
theorem d_M_input_5 : decode b_M_input 5 = .ok (.ifCond .eq 35, 3) := by decide +kernel
theorem d_M_input_8 : decode b_M_input 8 = .ok (.iload_n 2, 1) := by decide +kernel
theorem d_M_input_9 : decode b_M_input 9 = .ok (.bipush 16, 2) := by decide +kernel
theorem d_M_input_11 : decode b_M_input 11 = .ok (.if_icmp .lt 17, 3) := by decide +kernel
theorem d_M_input_14 : decode b_M_input 14 = .ok (.aload_n 0, 1) := by decide +kernel
theorem d_M_input_15 : decode b_M_input 15 = .ok (.iload_n 2, 1) := by decide +kernel
theorem d_M_input_16 : decode b_M_input 16 = .ok (.bipush 16, 2) := by decide +kernel
theorem d_M_input_18 : decode b_M_input 18 = .ok (.isub, 1) := by decide +kernel
theorem d_M_input_19 : decode b_M_input 19 = .ok (.invokevirtual 71, 3) := by decide +kernel
theorem d_M_input_22 : decode b_M_input 22 = .ok (.ifCond .eq 18, 3) := by decide +kernel
theorem d_M_input_25 : decode b_M_input 25 = .ok (.goto 11, 3) := by decide +kernel
theorem d_M_input_28 : decode b_M_input 28 = .ok (.aload_n 0, 1) := by decide +kernel
theorem d_M_input_29 : decode b_M_input 29 = .ok (.iload_n 2, 1) := by decide +kernel
theorem d_M_input_30 : decode b_M_input 30 = .ok (.invokevirtual 67, 3) := by decide +kernel
theorem d_M_input_33 : decode b_M_input 33 = .ok (.ifCond .eq 7, 3) := by decide +kernel
theorem d_M_input_36 : decode b_M_input 36 = .ok (.iconst 1, 1) := by decide +kernel
theorem d_M_input_37 : decode b_M_input 37 = .ok (.goto 4, 3) := by decide +kernel
theorem d_M_input_40 : decode b_M_input 40 = .ok (.iconst 0, 1) := by decide +kernel
theorem d_M_input_41 : decode b_M_input 41 = .ok (.istore_n 3, 1) := by decide +kernel
theorem d_M_input_42 : decode b_M_input 42 = .ok (.aload_n 0, 1) := by decide +kernel
theorem d_M_input_43 : decode b_M_input 43 = .ok (.iload_n 3, 1) := by decide +kernel
theorem d_M_input_44 : decode b_M_input 44 = .ok (.ifCond .eq 7, 3) := by decide +kernel
theorem d_M_input_47 : decode b_M_input 47 = .ok (.iconst 0, 1) := by decide +kernel
theorem d_M_input_48 : decode b_M_input 48 = .ok (.goto 4, 3) := by decide +kernel
theorem d_M_input_51 : decode b_M_input 51 = .ok (.iconst 1, 1) := by decide +kernel
theorem d_M_input_52 : decode b_M_input 52 = .ok (.putfield 58, 3) := by decide +kernel
theorem d_M_input_55 : decode b_M_input 55 = .ok (.aload_n 0, 1) := by decide +kernel
theorem d_M_input_56 : decode b_M_input 56 = .ok (.getfield 58, 3) := by decide +kernel
theorem d_M_input_59 : decode b_M_input 59 = .ok (.ifCond .le 5, 3) := by decide +kernel
theorem d_M_input_62 : decode b_M_input 62 = .ok (.iconst 0, 1) := by decide +kernel
theorem d_M_input_63 : decode b_M_input 63 = .ok (.ireturn, 1) := by decide +kernel
theorem d_M_input_64 : decode b_M_input 64 = .ok (.aload_n 0, 1) := by decide +kernel
theorem d_M_input_65 : decode b_M_input 65 = .ok (.aload_n 0, 1) := by decide +kernel
theorem d_M_input_66 : decode b_M_input 66 = .ok (.iload_n 1, 1) := by decide +kernel
theorem d_M_input_67 : decode b_M_input 67 = .ok (.iload_n 2, 1) := by decide +kernel
theorem d_M_input_68 : decode b_M_input 68 = .ok (.invokevirtual 74, 3) := by decide +kernel
theorem d_M_input_71 : decode b_M_input 71 = .ok (.ifCond .ne 27, 3) := by decide +kernel
theorem d_M_input_74 : decode b_M_input 74 = .ok (.aload_n 0, 1) := by decide +kernel
theorem d_M_input_75 : decode b_M_input 75 = .ok (.getfield 22, 3) := by decide +kernel
theorem d_M_input_78 : decode b_M_input 78 = .ok (.iload_n 1, 1) := by decide +kernel
theorem d_M_input_79 : decode b_M_input 79 = .ok (.iaload, 1) := by decide +kernel
theorem d_M_input_80 : decode b_M_input 80 = .ok (.aload_n 0, 1) := by decide +kernel
theorem d_M_input_81 : decode b_M_input 81 = .ok (.getfield 16, 3) := by decide +kernel
theorem d_M_input_84 : decode b_M_input 84 = .ok (.iload_n 1, 1) := by decide +kernel
theorem d_M_input_85 : decode b_M_input 85 = .ok (.iaload, 1) := by decide +kernel
theorem d_M_input_86 : decode b_M_input 86 = .ok (.iconst 4, 1) := by decide +kernel
theorem d_M_input_87 : decode b_M_input 87 = .ok (.if_icmp .ne 7, 3) := by decide +kernel
theorem d_M_input_90 : decode b_M_input 90 = .ok (.iconst 1, 1) := by decide +kernel
theorem d_M_input_91 : decode b_M_input 91 = .ok (.goto 4, 3) := by decide +kernel
theorem d_M_input_94 : decode b_M_input 94 = .ok (.iconst 4, 1) := by decide +kernel
theorem d_M_input_95 : decode b_M_input 95 = .ok (.if_icmp .ne 7, 3) := by decide +kernel
theorem d_M_input_98 : decode b_M_input 98 = .ok (.iconst 2, 1) := by decide +kernel
theorem d_M_input_99 : decode b_M_input 99 = .ok (.goto 4, 3) := by decide +kernel
theorem d_M_input_102 : decode b_M_input 102 = .ok (.iconst 0, 1) := by decide +kernel
theorem d_M_input_103 : decode b_M_input 103 = .ok (.putfield 58, 3) := by decide +kernel
theorem d_M_input_106 : decode b_M_input 106 = .ok (.aload_n 0, 1) := by decide +kernel
theorem d_M_input_107 : decode b_M_input 107 = .ok (.getfield 58, 3) := by decide +kernel
theorem d_M_input_110 : decode b_M_input 110 = .ok (.ifCond .le 5, 3) := by decide +kernel
theorem d_M_input_113 : decode b_M_input 113 = .ok (.iconst 0, 1) := by decide +kernel
theorem d_M_input_114 : decode b_M_input 114 = .ok (.ireturn, 1) := by decide +kernel
theorem d_M_input_115 : decode b_M_input 115 = .ok (.aload_n 0, 1) := by decide +kernel
theorem d_M_input_116 : decode b_M_input 116 = .ok (.invokevirtual 78, 3) := by decide +kernel
theorem d_M_input_119 : decode b_M_input 119 = .ok (.aload_n 0, 1) := by decide +kernel
theorem d_M_input_120 : decode b_M_input 120 = .ok (.iload_n 2, 1) := by decide +kernel
theorem d_M_input_121 : decode b_M_input 121 = .ok (.bipush 16, 2) := by decide +kernel
theorem d_M_input_123 : decode b_M_input 123 = .ok (.iload_n 1, 1) := by decide +kernel
theorem d_M_input_124 : decode b_M_input 124 = .ok (.iadd, 1) := by decide +kernel
theorem d_M_input_125 : decode b_M_input 125 = .ok (.if_icmp .eq 26, 3) := by decide +kernel
theorem d_M_input_128 : decode b_M_input 128 = .ok (.iload_n 2, 1) := by decide +kernel
theorem d_M_input_129 : decode b_M_input 129 = .ok (.bipush 16, 2) := by decide +kernel
theorem d_M_input_131 : decode b_M_input 131 = .ok (.if_icmp .lt 24, 3) := by decide +kernel
theorem d_M_input_134 : decode b_M_input 134 = .ok (.aload_n 0, 1) := by decide +kernel
theorem d_M_input_135 : decode b_M_input 135 = .ok (.getfield 32, 3) := by decide +kernel
theorem d_M_input_138 : decode b_M_input 138 = .ok (.bipush 12, 2) := by decide +kernel
theorem d_M_input_140 : decode b_M_input 140 = .ok (.iload_n 2, 1) := by decide +kernel
theorem d_M_input_141 : decode b_M_input 141 = .ok (.bipush 16, 2) := by decide +kernel
theorem d_M_input_143 : decode b_M_input 143 = .ok (.isub, 1) := by decide +kernel
theorem d_M_input_144 : decode b_M_input 144 = .ok (.imul, 1) := by decide +kernel
theorem d_M_input_145 : decode b_M_input 145 = .ok (.iload_n 1, 1) := by decide +kernel
theorem d_M_input_146 : decode b_M_input 146 = .ok (.iadd, 1) := by decide +kernel
theorem d_M_input_147 : decode b_M_input 147 = .ok (.baload, 1) := by decide +kernel
theorem d_M_input_148 : decode b_M_input 148 = .ok (.ifCond .eq 7, 3) := by decide +kernel
theorem d_M_input_151 : decode b_M_input 151 = .ok (.iconst 3, 1) := by decide +kernel
theorem d_M_input_152 : decode b_M_input 152 = .ok (.goto 4, 3) := by decide +kernel
theorem d_M_input_155 : decode b_M_input 155 = .ok (.iconst 0, 1) := by decide +kernel
theorem d_M_input_156 : decode b_M_input 156 = .ok (.putfield 58, 3) := by decide +kernel
theorem d_M_input_159 : decode b_M_input 159 = .ok (.aload_n 0, 1) := by decide +kernel
theorem d_M_input_160 : decode b_M_input 160 = .ok (.getfield 58, 3) := by decide +kernel
theorem d_M_input_163 : decode b_M_input 163 = .ok (.ifCond .le 5, 3) := by decide +kernel
theorem d_M_input_166 : decode b_M_input 166 = .ok (.iconst 0, 1) := by decide +kernel
theorem d_M_input_167 : decode b_M_input 167 = .ok (.ireturn, 1) := by decide +kernel
theorem d_M_input_168 : decode b_M_input 168 = .ok (.aload_n 0, 1) := by decide +kernel
theorem d_M_input_169 : decode b_M_input 169 = .ok (.getfield 25, 3) := by decide +kernel
theorem d_M_input_172 : decode b_M_input 172 = .ok (.iconst 4, 1) := by decide +kernel
theorem d_M_input_173 : decode b_M_input 173 = .ok (.iload_n 1, 1) := by decide +kernel
theorem d_M_input_174 : decode b_M_input 174 = .ok (.imul, 1) := by decide +kernel
theorem d_M_input_175 : decode b_M_input 175 = .ok (.aload_n 0, 1) := by decide +kernel
theorem d_M_input_176 : decode b_M_input 176 = .ok (.getfield 22, 3) := by decide +kernel
theorem d_M_input_179 : decode b_M_input 179 = .ok (.iload_n 1, 1) := by decide +kernel
theorem d_M_input_180 : decode b_M_input 180 = .ok (.iaload, 1) := by decide +kernel
theorem d_M_input_181 : decode b_M_input 181 = .ok (.iadd, 1) := by decide +kernel
theorem d_M_input_182 : decode b_M_input 182 = .ok (.iload_n 2, 1) := by decide +kernel
theorem d_M_input_183 : decode b_M_input 183 = .ok (.iastore, 1) := by decide +kernel
theorem d_M_input_184 : decode b_M_input 184 = .ok (.aload_n 0, 1) := by decide +kernel
theorem d_M_input_185 : decode b_M_input 185 = .ok (.getfield 22, 3) := by decide +kernel
theorem d_M_input_188 : decode b_M_input 188 = .ok (.iload_n 1, 1) := by decide +kernel
theorem d_M_input_189 : decode b_M_input 189 = .ok (.dup2, 1) := by decide +kernel
theorem d_M_input_190 : decode b_M_input 190 = .ok (.iaload, 1) := by decide +kernel
theorem d_M_input_191 : decode b_M_input 191 = .ok (.iconst 1, 1) := by decide +kernel
theorem d_M_input_192 : decode b_M_input 192 = .ok (.iadd, 1) := by decide +kernel
theorem d_M_input_193 : decode b_M_input 193 = .ok (.iastore, 1) := by decide +kernel
theorem d_M_input_194 : decode b_M_input 194 = .ok (.aload_n 0, 1) := by decide +kernel
theorem d_M_input_195 : decode b_M_input 195 = .ok (.getfield 22, 3) := by decide +kernel
theorem d_M_input_198 : decode b_M_input 198 = .ok (.iload_n 1, 1) := by decide +kernel
theorem d_M_input_199 : decode b_M_input 199 = .ok (.iaload, 1) := by decide +kernel
theorem d_M_input_200 : decode b_M_input 200 = .ok (.ireturn, 1) := by decide +kernel
def rm_M_input : Room := { frames := 1, cells := 0, slots := 0, locals := 24 }
def f_M_input_156 (fu : Nat) (v0 : Nat) (v1 : Int32) (v2 : Int32) (s0 : Nat) (s1 : Int32) (w : List va_E) : Option (Int32 × List va_E) := ((hp_pi w s0 7 0 s1).bind fun w1 => ((hp_gi w1 v0 7 0).bind fun x2 => (if x2 ≤ 0 then ((hp_gr w1 v0 7 8).bind fun q3 => ((hp_gr w1 v0 7 7).bind fun q4 => ((hp_ri w1 q4 v1).bind fun x5 => ((hp_wi w1 q3 (((4 : Int32) * v1) + x5) v2).bind fun w6 => ((hp_gr w6 v0 7 7).bind fun q7 => ((hp_ri w6 q7 v1).bind fun x8 => ((hp_wi w6 q7 v1 (x8 + (1 : Int32))).bind fun w9 => ((hp_gr w9 v0 7 7).bind fun q10 => ((hp_ri w9 q10 v1).bind fun x11 => (some (x11, w9))))))))))) else (some ((0 : Int32), w1)))))
def f_M_input_155 (fu : Nat) (v0 : Nat) (v1 : Int32) (v2 : Int32) (s0 : Nat) (w : List va_E) : Option (Int32 × List va_E) := (f_M_input_156 fu (v0) (v1) (v2) (s0) ((0 : Int32)) w)
def f_M_input_151 (fu : Nat) (v0 : Nat) (v1 : Int32) (v2 : Int32) (s0 : Nat) (w : List va_E) : Option (Int32 × List va_E) := (f_M_input_156 fu (v0) (v1) (v2) (s0) ((3 : Int32)) w)
def f_M_input_103 (fu : Nat) (v0 : Nat) (v1 : Int32) (v2 : Int32) (s0 : Nat) (s1 : Int32) (w : List va_E) : Option (Int32 × List va_E) := ((hp_pi w s0 7 0 s1).bind fun w1 => ((hp_gi w1 v0 7 0).bind fun x2 => (if x2 ≤ 0 then ((hp_is w1 v0 7).bind fun _ => ((f_M_findBelow fu v0 w1).bind fun r3 => (if v2 = ((16 : Int32) + v1) then (f_M_input_151 fu (v0) (v1) (v2) (v0) r3) else (if v2 < (16 : Int32) then (f_M_input_155 fu (v0) (v1) (v2) (v0) r3) else ((hp_gr r3 v0 7 10).bind fun q4 => ((hp_rz r3 q4 (((12 : Int32) * (v2 - (16 : Int32))) + v1)).bind fun x5 => (if x5 = 0 then (f_M_input_155 fu (v0) (v1) (v2) (v0) r3) else (f_M_input_151 fu (v0) (v1) (v2) (v0) r3)))))))) else (some ((0 : Int32), w1)))))
def f_M_input_98 (fu : Nat) (v0 : Nat) (v1 : Int32) (v2 : Int32) (s0 : Nat) (w : List va_E) : Option (Int32 × List va_E) := (f_M_input_103 fu (v0) (v1) (v2) (s0) ((2 : Int32)) w)
def f_M_input_95 (fu : Nat) (v0 : Nat) (v1 : Int32) (v2 : Int32) (s0 : Nat) (s1 : Int32) (s2 : Int32) (w : List va_E) : Option (Int32 × List va_E) := (if s1 = s2 then (f_M_input_98 fu (v0) (v1) (v2) (s0) w) else (f_M_input_103 fu (v0) (v1) (v2) (s0) ((0 : Int32)) w))
def f_M_input_52 (fu : Nat) (v0 : Nat) (v1 : Int32) (v2 : Int32) (s0 : Nat) (s1 : Int32) (w : List va_E) : Option (Int32 × List va_E) := ((hp_pi w s0 7 0 s1).bind fun w1 => ((hp_gi w1 v0 7 0).bind fun x2 => (if x2 ≤ 0 then ((hp_is w1 v0 7).bind fun _ => ((f_M_hasChild fu v0 v1 v2 w1).bind fun r3 => (if r3.1 = 0 then ((hp_gr r3.2 v0 7 7).bind fun q4 => ((hp_ri r3.2 q4 v1).bind fun x5 => ((hp_gr r3.2 v0 7 5).bind fun q6 => ((hp_ri r3.2 q6 v1).bind fun x7 => (if x7 = (4 : Int32) then (f_M_input_95 fu (v0) (v1) (v2) (v0) (x5) ((1 : Int32)) r3.2) else (f_M_input_95 fu (v0) (v1) (v2) (v0) (x5) ((4 : Int32)) r3.2)))))) else (f_M_input_98 fu (v0) (v1) (v2) (v0) r3.2)))) else (some ((0 : Int32), w1)))))
def f_M_input_41 (fu : Nat) (v0 : Nat) (v1 : Int32) (v2 : Int32) (s0 : Int32) (w : List va_E) : Option (Int32 × List va_E) := (if s0 = 0 then (f_M_input_52 fu (v0) (v1) (v2) (v0) ((1 : Int32)) w) else (f_M_input_52 fu (v0) (v1) (v2) (v0) ((0 : Int32)) w))
def f_M_input_40 (fu : Nat) (v0 : Nat) (v1 : Int32) (v2 : Int32) (w : List va_E) : Option (Int32 × List va_E) := (f_M_input_41 fu (v0) (v1) (v2) ((0 : Int32)) w)
def f_M_input_36 (fu : Nat) (v0 : Nat) (v1 : Int32) (v2 : Int32) (w : List va_E) : Option (Int32 × List va_E) := (f_M_input_41 fu (v0) (v1) (v2) ((1 : Int32)) w)
def f_M_input (fu : Nat) (v0 : Nat) (v1 : Int32) (v2 : Int32) (w : List va_E) : Option (Int32 × List va_E) := ((hp_is w v0 7).bind fun _ => ((f_M_isGate fu v0 v1 w).bind fun r1 => (if r1.1 = 0 then (f_M_input_40 fu (v0) (v1) (v2) r1.2) else (if v2 < (16 : Int32) then ((hp_is r1.2 v0 7).bind fun _ => ((f_M_isEvent fu v0 v2 r1.2).bind fun r2 => (if r2.1 = 0 then (f_M_input_40 fu (v0) (v1) (v2) r2.2) else (f_M_input_36 fu (v0) (v1) (v2) r2.2)))) else ((hp_is r1.2 v0 7).bind fun _ => ((f_M_isGate fu v0 (v2 - (16 : Int32)) r1.2).bind fun r3 => (if r3.1 = 0 then (f_M_input_40 fu (v0) (v1) (v2) r3.2) else (f_M_input_36 fu (v0) (v1) (v2) r3.2))))))))
section
variable {p : Program} {l : Launch} {e : Env} {s : State} {m : MethodId} {args : Array Value} {below : List Frame} {meth : Method} {c : Code} {D : va_G} {ca : Nat → Nat} {A : Nat → Prop} {ad : Nat → Nat}
set_option maxRecDepth 100000 in
set_option maxHeartbeats 4000000 in
theorem v_M_input_156 (K : av_K p s m args meth c D cl8 ca A b_M_input 4 R_M WS) (G : av_G NS tabON A s s.heap) (hr : meth.sig.returnType = some .int) (fu : Nat) {r : Int32 × List va_E} (v0 : Nat) (v1 : Int32) (v2 : Int32) (s0 : Nat) (s1 : Int32) (w : List va_E) (h : f_M_input_156 fu v0 v1 v2 s0 s1 w = some r) : av_VI p l e rm_M_input s m args below meth c D cl8 A ad ca 4 r 156 [some (.ref v0), some (.int v1), some (.int v2), none] [.int s1, .ref s0] w := by
  unfold f_M_input_156 at h
  obtain ⟨w1, ew1, h⟩ := hp_bd h
  refine hv_pi K fp_M_58 d_M_input_156 ew1 ?_
  refine av_aload_n K d_M_input_159 rfl rfl ?_
  obtain ⟨x2, ex2, h⟩ := hp_bd h
  refine hv_gi K fl_M_58 d_M_input_160 ex2 ?_
  refine av_if_le (tgt := 168) K d_M_input_163 rfl (fun hc => ?_) (fun hc => ?_)
  · rw [if_pos hc] at h
    refine av_aload_n K d_M_input_168 rfl rfl ?_
    obtain ⟨q3, eq3, h⟩ := hp_bd h
    refine hv_gr K fl_M_25 d_M_input_169 eq3 ?_
    refine av_iconst (v := (4 : Int32)) K d_M_input_172 (by decide) ?_
    refine av_iload_n K d_M_input_173 rfl rfl ?_
    refine av_imul K d_M_input_174 ?_
    refine av_aload_n K d_M_input_175 rfl rfl ?_
    obtain ⟨q4, eq4, h⟩ := hp_bd h
    refine hv_gr K fl_M_22 d_M_input_176 eq4 ?_
    refine av_iload_n K d_M_input_179 rfl rfl ?_
    obtain ⟨x5, ex5, h⟩ := hp_bd h
    refine hv_ri K d_M_input_180 ex5 ?_
    refine av_iadd K d_M_input_181 ?_
    refine av_iload_n K d_M_input_182 rfl rfl ?_
    obtain ⟨w6, ew6, h⟩ := hp_bd h
    refine hv_wi K d_M_input_183 ew6 ?_
    refine av_aload_n K d_M_input_184 rfl rfl ?_
    obtain ⟨q7, eq7, h⟩ := hp_bd h
    refine hv_gr K fl_M_22 d_M_input_185 eq7 ?_
    refine av_iload_n K d_M_input_188 rfl rfl ?_
    refine av_dup2 K d_M_input_189 rfl rfl ?_
    obtain ⟨x8, ex8, h⟩ := hp_bd h
    refine hv_ri K d_M_input_190 ex8 ?_
    refine av_iconst (v := (1 : Int32)) K d_M_input_191 (by decide) ?_
    refine av_iadd K d_M_input_192 ?_
    obtain ⟨w9, ew9, h⟩ := hp_bd h
    refine hv_wi K d_M_input_193 ew9 ?_
    refine av_aload_n K d_M_input_194 rfl rfl ?_
    obtain ⟨q10, eq10, h⟩ := hp_bd h
    refine hv_gr K fl_M_22 d_M_input_195 eq10 ?_
    refine av_iload_n K d_M_input_198 rfl rfl ?_
    obtain ⟨x11, ex11, h⟩ := hp_bd h
    refine hv_ri K d_M_input_199 ex11 ?_
    obtain rfl := Option.some.inj h
    exact av_ireturn K hr d_M_input_200 rfl
  · rw [if_neg hc] at h
    refine av_iconst (v := (0 : Int32)) K d_M_input_166 (by decide) ?_
    obtain rfl := Option.some.inj h
    exact av_ireturn K hr d_M_input_167 rfl
set_option maxRecDepth 100000 in
set_option maxHeartbeats 4000000 in
theorem v_M_input_155 (K : av_K p s m args meth c D cl8 ca A b_M_input 4 R_M WS) (G : av_G NS tabON A s s.heap) (hr : meth.sig.returnType = some .int) (fu : Nat) {r : Int32 × List va_E} (v0 : Nat) (v1 : Int32) (v2 : Int32) (s0 : Nat) (w : List va_E) (h : f_M_input_155 fu v0 v1 v2 s0 w = some r) : av_VI p l e rm_M_input s m args below meth c D cl8 A ad ca 4 r 155 [some (.ref v0), some (.int v1), some (.int v2), none] [.ref s0] w := by
  unfold f_M_input_155 at h
  refine av_iconst (v := (0 : Int32)) K d_M_input_155 (by decide) ?_
  exact v_M_input_156 K G hr fu (v0) (v1) (v2) (s0) ((0 : Int32)) _ h
set_option maxRecDepth 100000 in
set_option maxHeartbeats 4000000 in
theorem v_M_input_151 (K : av_K p s m args meth c D cl8 ca A b_M_input 4 R_M WS) (G : av_G NS tabON A s s.heap) (hr : meth.sig.returnType = some .int) (fu : Nat) {r : Int32 × List va_E} (v0 : Nat) (v1 : Int32) (v2 : Int32) (s0 : Nat) (w : List va_E) (h : f_M_input_151 fu v0 v1 v2 s0 w = some r) : av_VI p l e rm_M_input s m args below meth c D cl8 A ad ca 4 r 151 [some (.ref v0), some (.int v1), some (.int v2), none] [.ref s0] w := by
  unfold f_M_input_151 at h
  refine av_iconst (v := (3 : Int32)) K d_M_input_151 (by decide) ?_
  refine av_goto (tgt := 156) K d_M_input_152 rfl ?_
  exact v_M_input_156 K G hr fu (v0) (v1) (v2) (s0) ((3 : Int32)) _ h
set_option maxRecDepth 100000 in
set_option maxHeartbeats 4000000 in
theorem v_M_input_103 (K : av_K p s m args meth c D cl8 ca A b_M_input 4 R_M WS) (G : av_G NS tabON A s s.heap) (hr : meth.sig.returnType = some .int) (fu : Nat) {r : Int32 × List va_E} (v0 : Nat) (v1 : Int32) (v2 : Int32) (s0 : Nat) (s1 : Int32) (w : List va_E) (h : f_M_input_103 fu v0 v1 v2 s0 s1 w = some r) : av_VI p l e rm_M_input s m args below meth c D cl8 A ad ca 4 r 103 [some (.ref v0), some (.int v1), some (.int v2), none] [.int s1, .ref s0] w := by
  unfold f_M_input_103 at h
  obtain ⟨w1, ew1, h⟩ := hp_bd h
  refine hv_pi K fp_M_58 d_M_input_103 ew1 ?_
  refine av_aload_n K d_M_input_106 rfl rfl ?_
  obtain ⟨x2, ex2, h⟩ := hp_bd h
  refine hv_gi K fl_M_58 d_M_input_107 ex2 ?_
  refine av_if_le (tgt := 115) K d_M_input_110 rfl (fun hc => ?_) (fun hc => ?_)
  · rw [if_pos hc] at h
    refine av_aload_n K d_M_input_115 rfl rfl ?_
    obtain ⟨_, eo116, h⟩ := hp_bd h
    obtain ⟨r3, er3, h⟩ := hp_bd h
    obtain ⟨fs116, ho116⟩ := hp_is_of eo116
    refine av_cVv K G (c_M_findBelow (tab := tabON) er3) (cwV 0 K.2.2.2.2.1 (gV ml_M_78 im_M_findBelow se_M_findBelow in_M co_M_findBelow) rfl rfl rfl cd_M_findBelow ⟨Nat.le_of_ble_eq_true rfl, Nat.le_of_ble_eq_true rfl⟩) rfl ho116 rfl rfl (Nat.le_of_ble_eq_true rfl) d_M_input_116 ⟨Nat.zero_le _, Nat.zero_le _⟩ (fun u9 h9 => ?_)
    subst h9
    refine av_aload_n K d_M_input_119 rfl rfl ?_
    refine av_iload_n K d_M_input_120 rfl rfl ?_
    refine av_bipush (v := (16 : Int32)) K d_M_input_121 (by decide) ?_
    refine av_iload_n K d_M_input_123 rfl rfl ?_
    refine av_iadd K d_M_input_124 ?_
    refine av_icmp_eq (tgt := 151) K d_M_input_125 rfl (fun hc => ?_) (fun hc => ?_)
    · rw [if_pos hc] at h
      exact v_M_input_151 K G hr fu (v0) (v1) (v2) (v0) _ h
    · rw [if_neg hc] at h
      refine av_iload_n K d_M_input_128 rfl rfl ?_
      refine av_bipush (v := (16 : Int32)) K d_M_input_129 (by decide) ?_
      refine av_icmp_lt (tgt := 155) K d_M_input_131 rfl (fun hc => ?_) (fun hc => ?_)
      · rw [if_pos hc] at h
        exact v_M_input_155 K G hr fu (v0) (v1) (v2) (v0) _ h
      · rw [if_neg hc] at h
        refine av_aload_n K d_M_input_134 rfl rfl ?_
        obtain ⟨q4, eq4, h⟩ := hp_bd h
        refine hv_gr K fl_M_32 d_M_input_135 eq4 ?_
        refine av_bipush (v := (12 : Int32)) K d_M_input_138 (by decide) ?_
        refine av_iload_n K d_M_input_140 rfl rfl ?_
        refine av_bipush (v := (16 : Int32)) K d_M_input_141 (by decide) ?_
        refine av_isub K d_M_input_143 ?_
        refine av_imul K d_M_input_144 ?_
        refine av_iload_n K d_M_input_145 rfl rfl ?_
        refine av_iadd K d_M_input_146 ?_
        obtain ⟨x5, ex5, h⟩ := hp_bd h
        refine hv_rz K d_M_input_147 ex5 ?_
        refine av_if_eq (tgt := 155) K d_M_input_148 rfl (fun hc => ?_) (fun hc => ?_)
        · rw [if_pos hc] at h
          exact v_M_input_155 K G hr fu (v0) (v1) (v2) (v0) _ h
        · rw [if_neg hc] at h
          exact v_M_input_151 K G hr fu (v0) (v1) (v2) (v0) _ h
  · rw [if_neg hc] at h
    refine av_iconst (v := (0 : Int32)) K d_M_input_113 (by decide) ?_
    obtain rfl := Option.some.inj h
    exact av_ireturn K hr d_M_input_114 rfl
set_option maxRecDepth 100000 in
set_option maxHeartbeats 4000000 in
theorem v_M_input_98 (K : av_K p s m args meth c D cl8 ca A b_M_input 4 R_M WS) (G : av_G NS tabON A s s.heap) (hr : meth.sig.returnType = some .int) (fu : Nat) {r : Int32 × List va_E} (v0 : Nat) (v1 : Int32) (v2 : Int32) (s0 : Nat) (w : List va_E) (h : f_M_input_98 fu v0 v1 v2 s0 w = some r) : av_VI p l e rm_M_input s m args below meth c D cl8 A ad ca 4 r 98 [some (.ref v0), some (.int v1), some (.int v2), none] [.ref s0] w := by
  unfold f_M_input_98 at h
  refine av_iconst (v := (2 : Int32)) K d_M_input_98 (by decide) ?_
  refine av_goto (tgt := 103) K d_M_input_99 rfl ?_
  exact v_M_input_103 K G hr fu (v0) (v1) (v2) (s0) ((2 : Int32)) _ h
set_option maxRecDepth 100000 in
set_option maxHeartbeats 4000000 in
theorem v_M_input_95 (K : av_K p s m args meth c D cl8 ca A b_M_input 4 R_M WS) (G : av_G NS tabON A s s.heap) (hr : meth.sig.returnType = some .int) (fu : Nat) {r : Int32 × List va_E} (v0 : Nat) (v1 : Int32) (v2 : Int32) (s0 : Nat) (s1 : Int32) (s2 : Int32) (w : List va_E) (h : f_M_input_95 fu v0 v1 v2 s0 s1 s2 w = some r) : av_VI p l e rm_M_input s m args below meth c D cl8 A ad ca 4 r 95 [some (.ref v0), some (.int v1), some (.int v2), none] [.int s2, .int s1, .ref s0] w := by
  unfold f_M_input_95 at h
  refine av_icmp_ne (tgt := 102) K d_M_input_95 rfl (fun hc => ?_) (fun hc => ?_)
  · rw [if_neg hc] at h
    refine av_iconst (v := (0 : Int32)) K d_M_input_102 (by decide) ?_
    exact v_M_input_103 K G hr fu (v0) (v1) (v2) (s0) ((0 : Int32)) _ h
  · rw [if_pos hc] at h
    exact v_M_input_98 K G hr fu (v0) (v1) (v2) (s0) _ h
set_option maxRecDepth 100000 in
set_option maxHeartbeats 4000000 in
theorem v_M_input_52 (K : av_K p s m args meth c D cl8 ca A b_M_input 4 R_M WS) (G : av_G NS tabON A s s.heap) (hr : meth.sig.returnType = some .int) (fu : Nat) {r : Int32 × List va_E} (v0 : Nat) (v1 : Int32) (v2 : Int32) (s0 : Nat) (s1 : Int32) (w : List va_E) (h : f_M_input_52 fu v0 v1 v2 s0 s1 w = some r) : av_VI p l e rm_M_input s m args below meth c D cl8 A ad ca 4 r 52 [some (.ref v0), some (.int v1), some (.int v2), none] [.int s1, .ref s0] w := by
  unfold f_M_input_52 at h
  obtain ⟨w1, ew1, h⟩ := hp_bd h
  refine hv_pi K fp_M_58 d_M_input_52 ew1 ?_
  refine av_aload_n K d_M_input_55 rfl rfl ?_
  obtain ⟨x2, ex2, h⟩ := hp_bd h
  refine hv_gi K fl_M_58 d_M_input_56 ex2 ?_
  refine av_if_le (tgt := 64) K d_M_input_59 rfl (fun hc => ?_) (fun hc => ?_)
  · rw [if_pos hc] at h
    refine av_aload_n K d_M_input_64 rfl rfl ?_
    refine av_aload_n K d_M_input_65 rfl rfl ?_
    refine av_iload_n K d_M_input_66 rfl rfl ?_
    refine av_iload_n K d_M_input_67 rfl rfl ?_
    obtain ⟨_, eo68, h⟩ := hp_bd h
    obtain ⟨r3, er3, h⟩ := hp_bd h
    obtain ⟨fs68, ho68⟩ := hp_is_of eo68
    refine av_cVi K G (c_M_hasChild (tab := tabON) er3) (cwV 2 K.2.2.2.2.1 (gV ml_M_74 im_M_hasChild se_M_hasChild in_M co_M_hasChild) rfl rfl rfl cd_M_hasChild ⟨Nat.le_of_ble_eq_true rfl, Nat.le_of_ble_eq_true rfl⟩) rfl ho68 rfl rfl (Nat.le_of_ble_eq_true rfl) d_M_input_68 ⟨Nat.zero_le _, Nat.zero_le _⟩ (fun a9 u9 h9 => ?_)
    obtain ⟨rfl, rfl⟩ : a9 = r3.1 ∧ u9 = r3.2 := ⟨congrArg Prod.fst h9, congrArg Prod.snd h9⟩
    refine av_if_ne (tgt := 98) K d_M_input_71 rfl (fun hc => ?_) (fun hc => ?_)
    · rw [if_neg hc] at h
      exact v_M_input_98 K G hr fu (v0) (v1) (v2) (v0) _ h
    · rw [if_pos hc] at h
      refine av_aload_n K d_M_input_74 rfl rfl ?_
      obtain ⟨q4, eq4, h⟩ := hp_bd h
      refine hv_gr K fl_M_22 d_M_input_75 eq4 ?_
      refine av_iload_n K d_M_input_78 rfl rfl ?_
      obtain ⟨x5, ex5, h⟩ := hp_bd h
      refine hv_ri K d_M_input_79 ex5 ?_
      refine av_aload_n K d_M_input_80 rfl rfl ?_
      obtain ⟨q6, eq6, h⟩ := hp_bd h
      refine hv_gr K fl_M_16 d_M_input_81 eq6 ?_
      refine av_iload_n K d_M_input_84 rfl rfl ?_
      obtain ⟨x7, ex7, h⟩ := hp_bd h
      refine hv_ri K d_M_input_85 ex7 ?_
      refine av_iconst (v := (4 : Int32)) K d_M_input_86 (by decide) ?_
      refine av_icmp_ne (tgt := 94) K d_M_input_87 rfl (fun hc => ?_) (fun hc => ?_)
      · rw [if_neg hc] at h
        refine av_iconst (v := (4 : Int32)) K d_M_input_94 (by decide) ?_
        exact v_M_input_95 K G hr fu (v0) (v1) (v2) (v0) (x5) ((4 : Int32)) _ h
      · rw [if_pos hc] at h
        refine av_iconst (v := (1 : Int32)) K d_M_input_90 (by decide) ?_
        refine av_goto (tgt := 95) K d_M_input_91 rfl ?_
        exact v_M_input_95 K G hr fu (v0) (v1) (v2) (v0) (x5) ((1 : Int32)) _ h
  · rw [if_neg hc] at h
    refine av_iconst (v := (0 : Int32)) K d_M_input_62 (by decide) ?_
    obtain rfl := Option.some.inj h
    exact av_ireturn K hr d_M_input_63 rfl
set_option maxRecDepth 100000 in
set_option maxHeartbeats 4000000 in
theorem v_M_input_41 (K : av_K p s m args meth c D cl8 ca A b_M_input 4 R_M WS) (G : av_G NS tabON A s s.heap) (hr : meth.sig.returnType = some .int) (fu : Nat) {r : Int32 × List va_E} (v0 : Nat) (v1 : Int32) (v2 : Int32) (s0 : Int32) (w : List va_E) (h : f_M_input_41 fu v0 v1 v2 s0 w = some r) : av_VI p l e rm_M_input s m args below meth c D cl8 A ad ca 4 r 41 [some (.ref v0), some (.int v1), some (.int v2), none] [.int s0] w := by
  unfold f_M_input_41 at h
  refine av_istore_n (L' := [some (.ref v0), some (.int v1), some (.int v2), some (.int s0)]) K d_M_input_41 rfl (Nat.le_of_ble_eq_true rfl) rfl ?_
  refine av_aload_n K d_M_input_42 rfl rfl ?_
  refine av_iload_n K d_M_input_43 rfl rfl ?_
  refine av_if_eq (tgt := 51) K d_M_input_44 rfl (fun hc => ?_) (fun hc => ?_)
  · rw [if_pos hc] at h
    refine av_iconst (v := (1 : Int32)) K d_M_input_51 (by decide) ?_
    refine hv_fg (L' := [some (.ref v0), some (.int v1), some (.int v2), none]) [3] rfl ?_
    exact v_M_input_52 K G hr fu (v0) (v1) (v2) (v0) ((1 : Int32)) _ h
  · rw [if_neg hc] at h
    refine av_iconst (v := (0 : Int32)) K d_M_input_47 (by decide) ?_
    refine av_goto (tgt := 52) K d_M_input_48 rfl ?_
    refine hv_fg (L' := [some (.ref v0), some (.int v1), some (.int v2), none]) [3] rfl ?_
    exact v_M_input_52 K G hr fu (v0) (v1) (v2) (v0) ((0 : Int32)) _ h
set_option maxRecDepth 100000 in
set_option maxHeartbeats 4000000 in
theorem v_M_input_40 (K : av_K p s m args meth c D cl8 ca A b_M_input 4 R_M WS) (G : av_G NS tabON A s s.heap) (hr : meth.sig.returnType = some .int) (fu : Nat) {r : Int32 × List va_E} (v0 : Nat) (v1 : Int32) (v2 : Int32) (w : List va_E) (h : f_M_input_40 fu v0 v1 v2 w = some r) : av_VI p l e rm_M_input s m args below meth c D cl8 A ad ca 4 r 40 [some (.ref v0), some (.int v1), some (.int v2), none] [] w := by
  unfold f_M_input_40 at h
  refine av_iconst (v := (0 : Int32)) K d_M_input_40 (by decide) ?_
  exact v_M_input_41 K G hr fu (v0) (v1) (v2) ((0 : Int32)) _ h
set_option maxRecDepth 100000 in
set_option maxHeartbeats 4000000 in
theorem v_M_input_36 (K : av_K p s m args meth c D cl8 ca A b_M_input 4 R_M WS) (G : av_G NS tabON A s s.heap) (hr : meth.sig.returnType = some .int) (fu : Nat) {r : Int32 × List va_E} (v0 : Nat) (v1 : Int32) (v2 : Int32) (w : List va_E) (h : f_M_input_36 fu v0 v1 v2 w = some r) : av_VI p l e rm_M_input s m args below meth c D cl8 A ad ca 4 r 36 [some (.ref v0), some (.int v1), some (.int v2), none] [] w := by
  unfold f_M_input_36 at h
  refine av_iconst (v := (1 : Int32)) K d_M_input_36 (by decide) ?_
  refine av_goto (tgt := 41) K d_M_input_37 rfl ?_
  exact v_M_input_41 K G hr fu (v0) (v1) (v2) ((1 : Int32)) _ h
set_option maxRecDepth 100000 in
set_option maxHeartbeats 4000000 in
theorem v_M_input (K : av_K p s m args meth c D cl8 ca A b_M_input 4 R_M WS) (G : av_G NS tabON A s s.heap) (hr : meth.sig.returnType = some .int) (fu : Nat) {r : Int32 × List va_E} (v0 : Nat) (v1 : Int32) (v2 : Int32) (w : List va_E) (h : f_M_input fu v0 v1 v2 w = some r) : av_VI p l e rm_M_input s m args below meth c D cl8 A ad ca 4 r 0 [some (.ref v0), some (.int v1), some (.int v2), none] [] w := by
  unfold f_M_input at h
  refine av_aload_n K d_M_input_0 rfl rfl ?_
  refine av_iload_n K d_M_input_1 rfl rfl ?_
  obtain ⟨_, eo2, h⟩ := hp_bd h
  obtain ⟨r1, er1, h⟩ := hp_bd h
  obtain ⟨fs2, ho2⟩ := hp_is_of eo2
  refine av_cVi K G (c_M_isGate (tab := tabON) er1) (cwV 1 K.2.2.2.2.1 (gV ml_M_71 im_M_isGate se_M_isGate in_M co_M_isGate) rfl rfl rfl cd_M_isGate ⟨Nat.le_of_ble_eq_true rfl, Nat.le_of_ble_eq_true rfl⟩) rfl ho2 rfl rfl (Nat.le_of_ble_eq_true rfl) d_M_input_2 ⟨Nat.zero_le _, Nat.zero_le _⟩ (fun a9 u9 h9 => ?_)
  obtain ⟨rfl, rfl⟩ : a9 = r1.1 ∧ u9 = r1.2 := ⟨congrArg Prod.fst h9, congrArg Prod.snd h9⟩
  refine av_if_eq (tgt := 40) K d_M_input_5 rfl (fun hc => ?_) (fun hc => ?_)
  · rw [if_pos hc] at h
    exact v_M_input_40 K G hr fu (v0) (v1) (v2) _ h
  · rw [if_neg hc] at h
    refine av_iload_n K d_M_input_8 rfl rfl ?_
    refine av_bipush (v := (16 : Int32)) K d_M_input_9 (by decide) ?_
    refine av_icmp_lt (tgt := 28) K d_M_input_11 rfl (fun hc => ?_) (fun hc => ?_)
    · rw [if_pos hc] at h
      refine av_aload_n K d_M_input_28 rfl rfl ?_
      refine av_iload_n K d_M_input_29 rfl rfl ?_
      obtain ⟨_, eo30, h⟩ := hp_bd h
      obtain ⟨r2, er2, h⟩ := hp_bd h
      obtain ⟨fs30, ho30⟩ := hp_is_of eo30
      refine av_cVi K G (c_M_isEvent (tab := tabON) er2) (cwV 1 K.2.2.2.2.1 (gV ml_M_67 im_M_isEvent se_M_isEvent in_M co_M_isEvent) rfl rfl rfl cd_M_isEvent ⟨Nat.le_of_ble_eq_true rfl, Nat.le_of_ble_eq_true rfl⟩) rfl ho30 rfl rfl (Nat.le_of_ble_eq_true rfl) d_M_input_30 ⟨Nat.zero_le _, Nat.zero_le _⟩ (fun a9 u9 h9 => ?_)
      obtain ⟨rfl, rfl⟩ : a9 = r2.1 ∧ u9 = r2.2 := ⟨congrArg Prod.fst h9, congrArg Prod.snd h9⟩
      refine av_if_eq (tgt := 40) K d_M_input_33 rfl (fun hc => ?_) (fun hc => ?_)
      · rw [if_pos hc] at h
        exact v_M_input_40 K G hr fu (v0) (v1) (v2) _ h
      · rw [if_neg hc] at h
        exact v_M_input_36 K G hr fu (v0) (v1) (v2) _ h
    · rw [if_neg hc] at h
      refine av_aload_n K d_M_input_14 rfl rfl ?_
      refine av_iload_n K d_M_input_15 rfl rfl ?_
      refine av_bipush (v := (16 : Int32)) K d_M_input_16 (by decide) ?_
      refine av_isub K d_M_input_18 ?_
      obtain ⟨_, eo19, h⟩ := hp_bd h
      obtain ⟨r3, er3, h⟩ := hp_bd h
      obtain ⟨fs19, ho19⟩ := hp_is_of eo19
      refine av_cVi K G (c_M_isGate (tab := tabON) er3) (cwV 1 K.2.2.2.2.1 (gV ml_M_71 im_M_isGate se_M_isGate in_M co_M_isGate) rfl rfl rfl cd_M_isGate ⟨Nat.le_of_ble_eq_true rfl, Nat.le_of_ble_eq_true rfl⟩) rfl ho19 rfl rfl (Nat.le_of_ble_eq_true rfl) d_M_input_19 ⟨Nat.zero_le _, Nat.zero_le _⟩ (fun a9 u9 h9 => ?_)
      obtain ⟨rfl, rfl⟩ : a9 = r3.1 ∧ u9 = r3.2 := ⟨congrArg Prod.fst h9, congrArg Prod.snd h9⟩
      refine av_if_eq (tgt := 40) K d_M_input_22 rfl (fun hc => ?_) (fun hc => ?_)
      · rw [if_pos hc] at h
        exact v_M_input_40 K G hr fu (v0) (v1) (v2) _ h
      · rw [if_neg hc] at h
        refine av_goto (tgt := 36) K d_M_input_25 rfl ?_
        exact v_M_input_36 K G hr fu (v0) (v1) (v2) _ h
end
set_option maxRecDepth 100000 in
theorem c_M_input {l : Launch} {D : va_G} {ca : Nat → Nat} {tab : Nat → Int64} {fu : Nat} {v0 : Nat} {v1 : Int32} {v2 : Int32} {w : List va_E} {r : Int32 × List va_E} (h : f_M_input fu v0 v1 v2 w = some r) : av_Ci l D cl8 ca NS tabON y_M_input w_M_input rm_M_input [.ref v0, .int v1, .int v2] w (fun v u => (v, u) = r) :=
  av_inI (cc := b_M_input) (nL := 4) (by decide +kernel) rfl (Nat.le_of_ble_eq_true rfl) (fun p e s m args below meth c A ad K G hr => v_M_input K G hr fu v0 v1 v2 w h)

-- FaultTreeDeskModel.top(I)V
theorem d_M_top_0 : decode b_M_top 0 = .ok (.aload_n 0, 1) := by decide +kernel
theorem d_M_top_1 : decode b_M_top 1 = .ok (.aload_n 0, 1) := by decide +kernel
theorem d_M_top_2 : decode b_M_top 2 = .ok (.iload_n 1, 1) := by decide +kernel
theorem d_M_top_3 : decode b_M_top 3 = .ok (.invokevirtual 71, 3) := by decide +kernel
theorem d_M_top_6 : decode b_M_top 6 = .ok (.ifCond .eq 7, 3) := by decide +kernel
theorem d_M_top_9 : decode b_M_top 9 = .ok (.iconst 0, 1) := by decide +kernel
theorem d_M_top_10 : decode b_M_top 10 = .ok (.goto 4, 3) := by decide +kernel
theorem d_M_top_13 : decode b_M_top 13 = .ok (.iconst 1, 1) := by decide +kernel
theorem d_M_top_14 : decode b_M_top 14 = .ok (.putfield 58, 3) := by decide +kernel
theorem d_M_top_17 : decode b_M_top 17 = .ok (.aload_n 0, 1) := by decide +kernel
theorem d_M_top_18 : decode b_M_top 18 = .ok (.aload_n 0, 1) := by decide +kernel
theorem d_M_top_19 : decode b_M_top 19 = .ok (.getfield 58, 3) := by decide +kernel
theorem d_M_top_22 : decode b_M_top 22 = .ok (.ifCond .le 10, 3) := by decide +kernel
theorem d_M_top_25 : decode b_M_top 25 = .ok (.aload_n 0, 1) := by decide +kernel
theorem d_M_top_26 : decode b_M_top 26 = .ok (.getfield 28, 3) := by decide +kernel
theorem d_M_top_29 : decode b_M_top 29 = .ok (.goto 4, 3) := by decide +kernel
theorem d_M_top_32 : decode b_M_top 32 = .ok (.iload_n 1, 1) := by decide +kernel
theorem d_M_top_33 : decode b_M_top 33 = .ok (.putfield 28, 3) := by decide +kernel
theorem d_M_top_36 : decode b_M_top 36 = .ok (.return_, 1) := by decide +kernel
def rm_M_top : Room := { frames := 1, cells := 0, slots := 0, locals := 21 }
def f_M_top_33 (fu : Nat) (s0 : Nat) (s1 : Int32) (w : List va_E) : Option (List va_E) := ((hp_pi w s0 7 9 s1).bind fun w1 => (some w1))
def f_M_top_14 (fu : Nat) (v0 : Nat) (v1 : Int32) (s0 : Nat) (s1 : Int32) (w : List va_E) : Option (List va_E) := ((hp_pi w s0 7 0 s1).bind fun w1 => ((hp_gi w1 v0 7 0).bind fun x2 => (if x2 ≤ 0 then (f_M_top_33 fu (v0) (v1) w1) else ((hp_gi w1 v0 7 9).bind fun x3 => (f_M_top_33 fu (v0) (x3) w1)))))
def f_M_top (fu : Nat) (v0 : Nat) (v1 : Int32) (w : List va_E) : Option (List va_E) := ((hp_is w v0 7).bind fun _ => ((f_M_isGate fu v0 v1 w).bind fun r1 => (if r1.1 = 0 then (f_M_top_14 fu (v0) (v1) (v0) ((1 : Int32)) r1.2) else (f_M_top_14 fu (v0) (v1) (v0) ((0 : Int32)) r1.2))))
section
variable {p : Program} {l : Launch} {e : Env} {s : State} {m : MethodId} {args : Array Value} {below : List Frame} {meth : Method} {c : Code} {D : va_G} {ca : Nat → Nat} {A : Nat → Prop} {ad : Nat → Nat}
set_option maxRecDepth 100000 in
set_option maxHeartbeats 4000000 in
theorem v_M_top_33 (K : av_K p s m args meth c D cl8 ca A b_M_top 2 R_M WS) (G : av_G NS tabON A s s.heap) (hr : meth.sig.returnType = none) (fu : Nat) {r : List va_E} (s0 : Nat) (s1 : Int32) (w : List va_E) (h : f_M_top_33 fu s0 s1 w = some r) : av_VV p l e rm_M_top s m args below meth c D cl8 A ad ca 2 r 33 [none, none] [.int s1, .ref s0] w := by
  unfold f_M_top_33 at h
  obtain ⟨w1, ew1, h⟩ := hp_bd h
  refine hv_pi K fp_M_28 d_M_top_33 ew1 ?_
  obtain rfl := Option.some.inj h
  exact av_return K hr d_M_top_36 rfl
set_option maxRecDepth 100000 in
set_option maxHeartbeats 4000000 in
theorem v_M_top_14 (K : av_K p s m args meth c D cl8 ca A b_M_top 2 R_M WS) (G : av_G NS tabON A s s.heap) (hr : meth.sig.returnType = none) (fu : Nat) {r : List va_E} (v0 : Nat) (v1 : Int32) (s0 : Nat) (s1 : Int32) (w : List va_E) (h : f_M_top_14 fu v0 v1 s0 s1 w = some r) : av_VV p l e rm_M_top s m args below meth c D cl8 A ad ca 2 r 14 [some (.ref v0), some (.int v1)] [.int s1, .ref s0] w := by
  unfold f_M_top_14 at h
  obtain ⟨w1, ew1, h⟩ := hp_bd h
  refine hv_pi K fp_M_58 d_M_top_14 ew1 ?_
  refine av_aload_n K d_M_top_17 rfl rfl ?_
  refine av_aload_n K d_M_top_18 rfl rfl ?_
  obtain ⟨x2, ex2, h⟩ := hp_bd h
  refine hv_gi K fl_M_58 d_M_top_19 ex2 ?_
  refine av_if_le (tgt := 32) K d_M_top_22 rfl (fun hc => ?_) (fun hc => ?_)
  · rw [if_pos hc] at h
    refine av_iload_n K d_M_top_32 rfl rfl ?_
    refine hv_fg (L' := [none, none]) [0, 1] rfl ?_
    exact v_M_top_33 K G hr fu (v0) (v1) _ h
  · rw [if_neg hc] at h
    refine av_aload_n K d_M_top_25 rfl rfl ?_
    obtain ⟨x3, ex3, h⟩ := hp_bd h
    refine hv_gi K fl_M_28 d_M_top_26 ex3 ?_
    refine av_goto (tgt := 33) K d_M_top_29 rfl ?_
    refine hv_fg (L' := [none, none]) [0, 1] rfl ?_
    exact v_M_top_33 K G hr fu (v0) (x3) _ h
set_option maxRecDepth 100000 in
set_option maxHeartbeats 4000000 in
theorem v_M_top (K : av_K p s m args meth c D cl8 ca A b_M_top 2 R_M WS) (G : av_G NS tabON A s s.heap) (hr : meth.sig.returnType = none) (fu : Nat) {r : List va_E} (v0 : Nat) (v1 : Int32) (w : List va_E) (h : f_M_top fu v0 v1 w = some r) : av_VV p l e rm_M_top s m args below meth c D cl8 A ad ca 2 r 0 [some (.ref v0), some (.int v1)] [] w := by
  unfold f_M_top at h
  refine av_aload_n K d_M_top_0 rfl rfl ?_
  refine av_aload_n K d_M_top_1 rfl rfl ?_
  refine av_iload_n K d_M_top_2 rfl rfl ?_
  obtain ⟨_, eo3, h⟩ := hp_bd h
  obtain ⟨r1, er1, h⟩ := hp_bd h
  obtain ⟨fs3, ho3⟩ := hp_is_of eo3
  refine av_cVi K G (c_M_isGate (tab := tabON) er1) (cwV 1 K.2.2.2.2.1 (gV ml_M_71 im_M_isGate se_M_isGate in_M co_M_isGate) rfl rfl rfl cd_M_isGate ⟨Nat.le_of_ble_eq_true rfl, Nat.le_of_ble_eq_true rfl⟩) rfl ho3 rfl rfl (Nat.le_of_ble_eq_true rfl) d_M_top_3 ⟨Nat.zero_le _, Nat.zero_le _⟩ (fun a9 u9 h9 => ?_)
  obtain ⟨rfl, rfl⟩ : a9 = r1.1 ∧ u9 = r1.2 := ⟨congrArg Prod.fst h9, congrArg Prod.snd h9⟩
  refine av_if_eq (tgt := 13) K d_M_top_6 rfl (fun hc => ?_) (fun hc => ?_)
  · rw [if_pos hc] at h
    refine av_iconst (v := (1 : Int32)) K d_M_top_13 (by decide) ?_
    exact v_M_top_14 K G hr fu (v0) (v1) (v0) ((1 : Int32)) _ h
  · rw [if_neg hc] at h
    refine av_iconst (v := (0 : Int32)) K d_M_top_9 (by decide) ?_
    refine av_goto (tgt := 14) K d_M_top_10 rfl ?_
    exact v_M_top_14 K G hr fu (v0) (v1) (v0) ((0 : Int32)) _ h
end
set_option maxRecDepth 100000 in
theorem c_M_top {l : Launch} {D : va_G} {ca : Nat → Nat} {tab : Nat → Int64} {fu : Nat} {v0 : Nat} {v1 : Int32} {w : List va_E} {r : List va_E} (h : f_M_top fu v0 v1 w = some r) : av_Cv l D cl8 ca NS tabON y_M_top w_M_top rm_M_top [.ref v0, .int v1] w (fun u => u = r) :=
  av_inV (cc := b_M_top) (nL := 2) (by decide +kernel) rfl (Nat.le_of_ble_eq_true rfl) (fun p e s m args below meth c A ad K G hr => v_M_top K G hr fu v0 v1 w h)

-- FaultTreeDeskModel.sort()V
theorem d_M_sort_0 : decode b_M_sort 0 = .ok (.aload_n 0, 1) := by decide +kernel
theorem d_M_sort_1 : decode b_M_sort 1 = .ok (.invokevirtual 78, 3) := by decide +kernel
theorem d_M_sort_4 : decode b_M_sort 4 = .ok (.iconst 0, 1) := by decide +kernel
theorem d_M_sort_5 : decode b_M_sort 5 = .ok (.istore_n 1, 1) := by decide +kernel
theorem d_M_sort_6 : decode b_M_sort 6 = .ok (.iconst 0, 1) := by decide +kernel
theorem d_M_sort_7 : decode b_M_sort 7 = .ok (.istore_n 2, 1) := by decide +kernel
theorem d_M_sort_8 : decode b_M_sort 8 = .ok (.iload_n 2, 1) := by decide +kernel
theorem d_M_sort_9 : decode b_M_sort 9 = .ok (.aload_n 0, 1) := by decide +kernel
theorem d_M_sort_10 : decode b_M_sort 10 = .ok (.getfield 64, 3) := by decide +kernel
theorem d_M_sort_13 : decode b_M_sort 13 = .ok (.if_icmp .ge 16, 3) := by decide +kernel
theorem d_M_sort_16 : decode b_M_sort 16 = .ok (.aload_n 0, 1) := by decide +kernel
theorem d_M_sort_17 : decode b_M_sort 17 = .ok (.getfield 36, 3) := by decide +kernel
theorem d_M_sort_20 : decode b_M_sort 20 = .ok (.iload_n 2, 1) := by decide +kernel
theorem d_M_sort_21 : decode b_M_sort 21 = .ok (.iconst 0, 1) := by decide +kernel
theorem d_M_sort_22 : decode b_M_sort 22 = .ok (.bastore, 1) := by decide +kernel
theorem d_M_sort_23 : decode b_M_sort 23 = .ok (.iinc 2 1, 3) := by decide +kernel
theorem d_M_sort_26 : decode b_M_sort 26 = .ok (.goto (-18), 3) := by decide +kernel
theorem d_M_sort_29 : decode b_M_sort 29 = .ok (.iconst 0, 1) := by decide +kernel
theorem d_M_sort_30 : decode b_M_sort 30 = .ok (.istore_n 2, 1) := by decide +kernel
theorem d_M_sort_31 : decode b_M_sort 31 = .ok (.iload_n 2, 1) := by decide +kernel
theorem d_M_sort_32 : decode b_M_sort 32 = .ok (.aload_n 0, 1) := by decide +kernel
theorem d_M_sort_33 : decode b_M_sort 33 = .ok (.getfield 64, 3) := by decide +kernel
theorem d_M_sort_36 : decode b_M_sort 36 = .ok (.if_icmp .ge 118, 3) := by decide +kernel
theorem d_M_sort_39 : decode b_M_sort 39 = .ok (.iconst 0, 1) := by decide +kernel
theorem d_M_sort_40 : decode b_M_sort 40 = .ok (.istore_n 3, 1) := by decide +kernel
theorem d_M_sort_41 : decode b_M_sort 41 = .ok (.iload_n 3, 1) := by decide +kernel
theorem d_M_sort_42 : decode b_M_sort 42 = .ok (.aload_n 0, 1) := by decide +kernel
theorem d_M_sort_43 : decode b_M_sort 43 = .ok (.getfield 64, 3) := by decide +kernel
theorem d_M_sort_46 : decode b_M_sort 46 = .ok (.if_icmp .ge 102, 3) := by decide +kernel
theorem d_M_sort_49 : decode b_M_sort 49 = .ok (.aload_n 0, 1) := by decide +kernel
theorem d_M_sort_50 : decode b_M_sort 50 = .ok (.getfield 36, 3) := by decide +kernel
theorem d_M_sort_53 : decode b_M_sort 53 = .ok (.iload_n 3, 1) := by decide +kernel
theorem d_M_sort_54 : decode b_M_sort 54 = .ok (.baload, 1) := by decide +kernel
theorem d_M_sort_55 : decode b_M_sort 55 = .ok (.ifCond .ne 7, 3) := by decide +kernel
theorem d_M_sort_58 : decode b_M_sort 58 = .ok (.iconst 1, 1) := by decide +kernel
theorem d_M_sort_59 : decode b_M_sort 59 = .ok (.goto 4, 3) := by decide +kernel
theorem d_M_sort_62 : decode b_M_sort 62 = .ok (.iconst 0, 1) := by decide +kernel
theorem d_M_sort_63 : decode b_M_sort 63 = .ok (.istore 4, 2) := by decide +kernel
theorem d_M_sort_65 : decode b_M_sort 65 = .ok (.iconst 0, 1) := by decide +kernel
theorem d_M_sort_66 : decode b_M_sort 66 = .ok (.istore 5, 2) := by decide +kernel
theorem d_M_sort_68 : decode b_M_sort 68 = .ok (.iload 5, 2) := by decide +kernel
theorem d_M_sort_70 : decode b_M_sort 70 = .ok (.aload_n 0, 1) := by decide +kernel
theorem d_M_sort_71 : decode b_M_sort 71 = .ok (.getfield 64, 3) := by decide +kernel
theorem d_M_sort_74 : decode b_M_sort 74 = .ok (.if_icmp .ge 46, 3) := by decide +kernel
theorem d_M_sort_77 : decode b_M_sort 77 = .ok (.iload 4, 2) := by decide +kernel
theorem d_M_sort_79 : decode b_M_sort 79 = .ok (.ifCond .eq 32, 3) := by decide +kernel
theorem d_M_sort_82 : decode b_M_sort 82 = .ok (.aload_n 0, 1) := by decide +kernel
theorem d_M_sort_83 : decode b_M_sort 83 = .ok (.getfield 32, 3) := by decide +kernel
theorem d_M_sort_86 : decode b_M_sort 86 = .ok (.bipush 12, 2) := by decide +kernel
theorem d_M_sort_88 : decode b_M_sort 88 = .ok (.iload_n 3, 1) := by decide +kernel
theorem d_M_sort_89 : decode b_M_sort 89 = .ok (.imul, 1) := by decide +kernel
theorem d_M_sort_90 : decode b_M_sort 90 = .ok (.iload 5, 2) := by decide +kernel
theorem d_M_sort_92 : decode b_M_sort 92 = .ok (.iadd, 1) := by decide +kernel
theorem d_M_sort_93 : decode b_M_sort 93 = .ok (.baload, 1) := by decide +kernel
theorem d_M_sort_94 : decode b_M_sort 94 = .ok (.ifCond .eq 13, 3) := by decide +kernel
theorem d_M_sort_97 : decode b_M_sort 97 = .ok (.aload_n 0, 1) := by decide +kernel
theorem d_M_sort_98 : decode b_M_sort 98 = .ok (.getfield 36, 3) := by decide +kernel
theorem d_M_sort_101 : decode b_M_sort 101 = .ok (.iload 5, 2) := by decide +kernel
theorem d_M_sort_103 : decode b_M_sort 103 = .ok (.baload, 1) := by decide +kernel
theorem d_M_sort_104 : decode b_M_sort 104 = .ok (.ifCond .eq 7, 3) := by decide +kernel
theorem d_M_sort_107 : decode b_M_sort 107 = .ok (.iconst 1, 1) := by decide +kernel
theorem d_M_sort_108 : decode b_M_sort 108 = .ok (.goto 4, 3) := by decide +kernel
theorem d_M_sort_111 : decode b_M_sort 111 = .ok (.iconst 0, 1) := by decide +kernel
theorem d_M_sort_112 : decode b_M_sort 112 = .ok (.istore 4, 2) := by decide +kernel
theorem d_M_sort_114 : decode b_M_sort 114 = .ok (.iinc 5 1, 3) := by decide +kernel
theorem d_M_sort_117 : decode b_M_sort 117 = .ok (.goto (-49), 3) := by decide +kernel
theorem d_M_sort_120 : decode b_M_sort 120 = .ok (.iload 4, 2) := by decide +kernel
theorem d_M_sort_122 : decode b_M_sort 122 = .ok (.ifCond .eq 20, 3) := by decide +kernel
theorem d_M_sort_125 : decode b_M_sort 125 = .ok (.aload_n 0, 1) := by decide +kernel
theorem d_M_sort_126 : decode b_M_sort 126 = .ok (.getfield 36, 3) := by decide +kernel
theorem d_M_sort_129 : decode b_M_sort 129 = .ok (.iload_n 3, 1) := by decide +kernel
theorem d_M_sort_130 : decode b_M_sort 130 = .ok (.iconst 1, 1) := by decide +kernel
theorem d_M_sort_131 : decode b_M_sort 131 = .ok (.bastore, 1) := by decide +kernel
theorem d_M_sort_132 : decode b_M_sort 132 = .ok (.aload_n 0, 1) := by decide +kernel
theorem d_M_sort_133 : decode b_M_sort 133 = .ok (.getfield 39, 3) := by decide +kernel
theorem d_M_sort_136 : decode b_M_sort 136 = .ok (.iload_n 1, 1) := by decide +kernel
theorem d_M_sort_137 : decode b_M_sort 137 = .ok (.iload_n 3, 1) := by decide +kernel
theorem d_M_sort_138 : decode b_M_sort 138 = .ok (.iastore, 1) := by decide +kernel
theorem d_M_sort_139 : decode b_M_sort 139 = .ok (.iinc 1 1, 3) := by decide +kernel
theorem d_M_sort_142 : decode b_M_sort 142 = .ok (.iinc 3 1, 3) := by decide +kernel
theorem d_M_sort_145 : decode b_M_sort 145 = .ok (.goto (-104), 3) := by decide +kernel
theorem d_M_sort_148 : decode b_M_sort 148 = .ok (.iinc 2 1, 3) := by decide +kernel
theorem d_M_sort_151 : decode b_M_sort 151 = .ok (.goto (-120), 3) := by decide +kernel
theorem d_M_sort_154 : decode b_M_sort 154 = .ok (.return_, 1) := by decide +kernel
def rm_M_sort : Room := { frames := 1, cells := 0, slots := 0, locals := 22 }
def f_M_sort_112 (fu : Nat) (k31 : Nat → Int32 → Int32 → List va_E → Option (List va_E)) (k41 : Nat → Int32 → Int32 → Int32 → List va_E → Option (List va_E)) (k68 : Nat → Int32 → Int32 → Int32 → Int32 → Int32 → List va_E → Option (List va_E)) (v0 : Nat) (v1 : Int32) (v2 : Int32) (v3 : Int32) (v5 : Int32) (s0 : Int32) (w : List va_E) : Option (List va_E) := (k68 (v0) (v1) (v2) (v3) (s0) ((v5 + (1 : Int32))) w)
def f_M_sort_107 (fu : Nat) (k31 : Nat → Int32 → Int32 → List va_E → Option (List va_E)) (k41 : Nat → Int32 → Int32 → Int32 → List va_E → Option (List va_E)) (k68 : Nat → Int32 → Int32 → Int32 → Int32 → Int32 → List va_E → Option (List va_E)) (v0 : Nat) (v1 : Int32) (v2 : Int32) (v3 : Int32) (v5 : Int32) (w : List va_E) : Option (List va_E) := (f_M_sort_112 fu k31 k41 k68 (v0) (v1) (v2) (v3) (v5) ((1 : Int32)) w)
def f_M_sort_142 (fu : Nat) (k31 : Nat → Int32 → Int32 → List va_E → Option (List va_E)) (k41 : Nat → Int32 → Int32 → Int32 → List va_E → Option (List va_E)) (v0 : Nat) (v1 : Int32) (v2 : Int32) (v3 : Int32) (w : List va_E) : Option (List va_E) := (k41 (v0) (v1) (v2) ((v3 + (1 : Int32))) w)
def f_M_sort_111 (fu : Nat) (k31 : Nat → Int32 → Int32 → List va_E → Option (List va_E)) (k41 : Nat → Int32 → Int32 → Int32 → List va_E → Option (List va_E)) (k68 : Nat → Int32 → Int32 → Int32 → Int32 → Int32 → List va_E → Option (List va_E)) (v0 : Nat) (v1 : Int32) (v2 : Int32) (v3 : Int32) (v5 : Int32) (w : List va_E) : Option (List va_E) := (f_M_sort_112 fu k31 k41 k68 (v0) (v1) (v2) (v3) (v5) ((0 : Int32)) w)
def f_M_sort_68 (fu : Nat) (k31 : Nat → Int32 → Int32 → List va_E → Option (List va_E)) (k41 : Nat → Int32 → Int32 → Int32 → List va_E → Option (List va_E)) : Nat → Nat → Int32 → Int32 → Int32 → Int32 → Int32 → List va_E → Option (List va_E)
  | 0, _, _, _, _, _, _, _ => none
  | n + 1, v0, v1, v2, v3, v4, v5, w => ((hp_gi w v0 7 4).bind fun x1 => (if x1 ≤ v5 then (if v4 = 0 then (f_M_sort_142 fu k31 k41 (v0) (v1) (v2) (v3) w) else ((hp_gr w v0 7 11).bind fun q2 => ((hp_wz w q2 v3 (1 : Int32)).bind fun w3 => ((hp_gr w3 v0 7 12).bind fun q4 => ((hp_wi w3 q4 v1 v3).bind fun w5 => (f_M_sort_142 fu k31 k41 (v0) ((v1 + (1 : Int32))) (v2) (v3) w5)))))) else (if v4 = 0 then (f_M_sort_111 fu k31 k41 (f_M_sort_68 fu k31 k41 n) (v0) (v1) (v2) (v3) (v5) w) else ((hp_gr w v0 7 10).bind fun q6 => ((hp_rz w q6 (((12 : Int32) * v3) + v5)).bind fun x7 => (if x7 = 0 then (f_M_sort_107 fu k31 k41 (f_M_sort_68 fu k31 k41 n) (v0) (v1) (v2) (v3) (v5) w) else ((hp_gr w v0 7 11).bind fun q8 => ((hp_rz w q8 v5).bind fun x9 => (if x9 = 0 then (f_M_sort_111 fu k31 k41 (f_M_sort_68 fu k31 k41 n) (v0) (v1) (v2) (v3) (v5) w) else (f_M_sort_107 fu k31 k41 (f_M_sort_68 fu k31 k41 n) (v0) (v1) (v2) (v3) (v5) w))))))))))
def f_M_sort_63 (fu : Nat) (k31 : Nat → Int32 → Int32 → List va_E → Option (List va_E)) (k41 : Nat → Int32 → Int32 → Int32 → List va_E → Option (List va_E)) (v0 : Nat) (v1 : Int32) (v2 : Int32) (v3 : Int32) (s0 : Int32) (w : List va_E) : Option (List va_E) := (f_M_sort_68 fu k31 k41 fu (v0) (v1) (v2) (v3) (s0) ((0 : Int32)) w)
def f_M_sort_41 (fu : Nat) (k31 : Nat → Int32 → Int32 → List va_E → Option (List va_E)) : Nat → Nat → Int32 → Int32 → Int32 → List va_E → Option (List va_E)
  | 0, _, _, _, _, _ => none
  | n + 1, v0, v1, v2, v3, w => ((hp_gi w v0 7 4).bind fun x1 => (if x1 ≤ v3 then (k31 (v0) (v1) ((v2 + (1 : Int32))) w) else ((hp_gr w v0 7 11).bind fun q2 => ((hp_rz w q2 v3).bind fun x3 => (if x3 = 0 then (f_M_sort_63 fu k31 (f_M_sort_41 fu k31 n) (v0) (v1) (v2) (v3) ((1 : Int32)) w) else (f_M_sort_63 fu k31 (f_M_sort_41 fu k31 n) (v0) (v1) (v2) (v3) ((0 : Int32)) w))))))
def f_M_sort_31 (fu : Nat) : Nat → Nat → Int32 → Int32 → List va_E → Option (List va_E)
  | 0, _, _, _, _ => none
  | n + 1, v0, v1, v2, w => ((hp_gi w v0 7 4).bind fun x1 => (if x1 ≤ v2 then (some w) else (f_M_sort_41 fu (f_M_sort_31 fu n) fu (v0) (v1) (v2) ((0 : Int32)) w)))
def f_M_sort_8 (fu : Nat) : Nat → Nat → Int32 → Int32 → List va_E → Option (List va_E)
  | 0, _, _, _, _ => none
  | n + 1, v0, v1, v2, w => ((hp_gi w v0 7 4).bind fun x1 => (if x1 ≤ v2 then (f_M_sort_31 fu fu (v0) (v1) ((0 : Int32)) w) else ((hp_gr w v0 7 11).bind fun q2 => ((hp_wz w q2 v2 (0 : Int32)).bind fun w3 => (f_M_sort_8 fu n (v0) (v1) ((v2 + (1 : Int32))) w3)))))
def f_M_sort (fu : Nat) (v0 : Nat) (w : List va_E) : Option (List va_E) := ((hp_is w v0 7).bind fun _ => ((f_M_findBelow fu v0 w).bind fun r1 => (f_M_sort_8 fu fu (v0) ((0 : Int32)) ((0 : Int32)) r1)))
section
variable {p : Program} {l : Launch} {e : Env} {s : State} {m : MethodId} {args : Array Value} {below : List Frame} {meth : Method} {c : Code} {D : va_G} {ca : Nat → Nat} {A : Nat → Prop} {ad : Nat → Nat}
set_option maxRecDepth 100000 in
set_option maxHeartbeats 4000000 in
theorem v_M_sort_112 (K : av_K p s m args meth c D cl8 ca A b_M_sort 6 R_M WS) (G : av_G NS tabON A s s.heap) (hr : meth.sig.returnType = none) (fu : Nat) {r : List va_E} (k31 : Nat → Int32 → Int32 → List va_E → Option (List va_E)) (k41 : Nat → Int32 → Int32 → Int32 → List va_E → Option (List va_E)) (k68 : Nat → Int32 → Int32 → Int32 → Int32 → Int32 → List va_E → Option (List va_E)) (hk31 : ∀ (v0 : Nat) (v1 : Int32) (v2 : Int32) (w : List va_E), k31 v0 v1 v2 w = some r → av_VV p l e rm_M_sort s m args below meth c D cl8 A ad ca 6 r 31 [some (.ref v0), some (.int v1), some (.int v2), none, none, none] [] w) (hk41 : ∀ (v0 : Nat) (v1 : Int32) (v2 : Int32) (v3 : Int32) (w : List va_E), k41 v0 v1 v2 v3 w = some r → av_VV p l e rm_M_sort s m args below meth c D cl8 A ad ca 6 r 41 [some (.ref v0), some (.int v1), some (.int v2), some (.int v3), none, none] [] w) (hk68 : ∀ (v0 : Nat) (v1 : Int32) (v2 : Int32) (v3 : Int32) (v4 : Int32) (v5 : Int32) (w : List va_E), k68 v0 v1 v2 v3 v4 v5 w = some r → av_VV p l e rm_M_sort s m args below meth c D cl8 A ad ca 6 r 68 [some (.ref v0), some (.int v1), some (.int v2), some (.int v3), some (.int v4), some (.int v5)] [] w) (v0 : Nat) (v1 : Int32) (v2 : Int32) (v3 : Int32) (v5 : Int32) (s0 : Int32) (w : List va_E) (h : f_M_sort_112 fu k31 k41 k68 v0 v1 v2 v3 v5 s0 w = some r) : av_VV p l e rm_M_sort s m args below meth c D cl8 A ad ca 6 r 112 [some (.ref v0), some (.int v1), some (.int v2), some (.int v3), none, some (.int v5)] [.int s0] w := by
  unfold f_M_sort_112 at h
  refine av_istore (L' := [some (.ref v0), some (.int v1), some (.int v2), some (.int v3), some (.int s0), some (.int v5)]) K d_M_sort_112 (Nat.le_of_ble_eq_true rfl) rfl ?_
  refine av_iinc (v := (v5 + (1 : Int32))) (L' := [some (.ref v0), some (.int v1), some (.int v2), some (.int v3), some (.int s0), some (.int (v5 + (1 : Int32)))]) K d_M_sort_114 rfl (congrArg (fun z => v5 + z) (show Int32.ofInt 1 = (1 : Int32) by decide)) (Nat.le_of_ble_eq_true rfl) rfl ?_
  refine av_goto (tgt := 68) K d_M_sort_117 rfl ?_
  exact hk68 (v0) (v1) (v2) (v3) (s0) ((v5 + (1 : Int32))) _ h
set_option maxRecDepth 100000 in
set_option maxHeartbeats 4000000 in
theorem v_M_sort_107 (K : av_K p s m args meth c D cl8 ca A b_M_sort 6 R_M WS) (G : av_G NS tabON A s s.heap) (hr : meth.sig.returnType = none) (fu : Nat) {r : List va_E} (k31 : Nat → Int32 → Int32 → List va_E → Option (List va_E)) (k41 : Nat → Int32 → Int32 → Int32 → List va_E → Option (List va_E)) (k68 : Nat → Int32 → Int32 → Int32 → Int32 → Int32 → List va_E → Option (List va_E)) (hk31 : ∀ (v0 : Nat) (v1 : Int32) (v2 : Int32) (w : List va_E), k31 v0 v1 v2 w = some r → av_VV p l e rm_M_sort s m args below meth c D cl8 A ad ca 6 r 31 [some (.ref v0), some (.int v1), some (.int v2), none, none, none] [] w) (hk41 : ∀ (v0 : Nat) (v1 : Int32) (v2 : Int32) (v3 : Int32) (w : List va_E), k41 v0 v1 v2 v3 w = some r → av_VV p l e rm_M_sort s m args below meth c D cl8 A ad ca 6 r 41 [some (.ref v0), some (.int v1), some (.int v2), some (.int v3), none, none] [] w) (hk68 : ∀ (v0 : Nat) (v1 : Int32) (v2 : Int32) (v3 : Int32) (v4 : Int32) (v5 : Int32) (w : List va_E), k68 v0 v1 v2 v3 v4 v5 w = some r → av_VV p l e rm_M_sort s m args below meth c D cl8 A ad ca 6 r 68 [some (.ref v0), some (.int v1), some (.int v2), some (.int v3), some (.int v4), some (.int v5)] [] w) (v0 : Nat) (v1 : Int32) (v2 : Int32) (v3 : Int32) (v5 : Int32) (w : List va_E) (h : f_M_sort_107 fu k31 k41 k68 v0 v1 v2 v3 v5 w = some r) : av_VV p l e rm_M_sort s m args below meth c D cl8 A ad ca 6 r 107 [some (.ref v0), some (.int v1), some (.int v2), some (.int v3), none, some (.int v5)] [] w := by
  unfold f_M_sort_107 at h
  refine av_iconst (v := (1 : Int32)) K d_M_sort_107 (by decide) ?_
  refine av_goto (tgt := 112) K d_M_sort_108 rfl ?_
  exact v_M_sort_112 K G hr fu k31 k41 k68 hk31 hk41 hk68 (v0) (v1) (v2) (v3) (v5) ((1 : Int32)) _ h
set_option maxRecDepth 100000 in
set_option maxHeartbeats 4000000 in
theorem v_M_sort_142 (K : av_K p s m args meth c D cl8 ca A b_M_sort 6 R_M WS) (G : av_G NS tabON A s s.heap) (hr : meth.sig.returnType = none) (fu : Nat) {r : List va_E} (k31 : Nat → Int32 → Int32 → List va_E → Option (List va_E)) (k41 : Nat → Int32 → Int32 → Int32 → List va_E → Option (List va_E)) (hk31 : ∀ (v0 : Nat) (v1 : Int32) (v2 : Int32) (w : List va_E), k31 v0 v1 v2 w = some r → av_VV p l e rm_M_sort s m args below meth c D cl8 A ad ca 6 r 31 [some (.ref v0), some (.int v1), some (.int v2), none, none, none] [] w) (hk41 : ∀ (v0 : Nat) (v1 : Int32) (v2 : Int32) (v3 : Int32) (w : List va_E), k41 v0 v1 v2 v3 w = some r → av_VV p l e rm_M_sort s m args below meth c D cl8 A ad ca 6 r 41 [some (.ref v0), some (.int v1), some (.int v2), some (.int v3), none, none] [] w) (v0 : Nat) (v1 : Int32) (v2 : Int32) (v3 : Int32) (w : List va_E) (h : f_M_sort_142 fu k31 k41 v0 v1 v2 v3 w = some r) : av_VV p l e rm_M_sort s m args below meth c D cl8 A ad ca 6 r 142 [some (.ref v0), some (.int v1), some (.int v2), some (.int v3), none, none] [] w := by
  unfold f_M_sort_142 at h
  refine av_iinc (v := (v3 + (1 : Int32))) (L' := [some (.ref v0), some (.int v1), some (.int v2), some (.int (v3 + (1 : Int32))), none, none]) K d_M_sort_142 rfl (congrArg (fun z => v3 + z) (show Int32.ofInt 1 = (1 : Int32) by decide)) (Nat.le_of_ble_eq_true rfl) rfl ?_
  refine av_goto (tgt := 41) K d_M_sort_145 rfl ?_
  exact hk41 (v0) (v1) (v2) ((v3 + (1 : Int32))) _ h
set_option maxRecDepth 100000 in
set_option maxHeartbeats 4000000 in
theorem v_M_sort_111 (K : av_K p s m args meth c D cl8 ca A b_M_sort 6 R_M WS) (G : av_G NS tabON A s s.heap) (hr : meth.sig.returnType = none) (fu : Nat) {r : List va_E} (k31 : Nat → Int32 → Int32 → List va_E → Option (List va_E)) (k41 : Nat → Int32 → Int32 → Int32 → List va_E → Option (List va_E)) (k68 : Nat → Int32 → Int32 → Int32 → Int32 → Int32 → List va_E → Option (List va_E)) (hk31 : ∀ (v0 : Nat) (v1 : Int32) (v2 : Int32) (w : List va_E), k31 v0 v1 v2 w = some r → av_VV p l e rm_M_sort s m args below meth c D cl8 A ad ca 6 r 31 [some (.ref v0), some (.int v1), some (.int v2), none, none, none] [] w) (hk41 : ∀ (v0 : Nat) (v1 : Int32) (v2 : Int32) (v3 : Int32) (w : List va_E), k41 v0 v1 v2 v3 w = some r → av_VV p l e rm_M_sort s m args below meth c D cl8 A ad ca 6 r 41 [some (.ref v0), some (.int v1), some (.int v2), some (.int v3), none, none] [] w) (hk68 : ∀ (v0 : Nat) (v1 : Int32) (v2 : Int32) (v3 : Int32) (v4 : Int32) (v5 : Int32) (w : List va_E), k68 v0 v1 v2 v3 v4 v5 w = some r → av_VV p l e rm_M_sort s m args below meth c D cl8 A ad ca 6 r 68 [some (.ref v0), some (.int v1), some (.int v2), some (.int v3), some (.int v4), some (.int v5)] [] w) (v0 : Nat) (v1 : Int32) (v2 : Int32) (v3 : Int32) (v5 : Int32) (w : List va_E) (h : f_M_sort_111 fu k31 k41 k68 v0 v1 v2 v3 v5 w = some r) : av_VV p l e rm_M_sort s m args below meth c D cl8 A ad ca 6 r 111 [some (.ref v0), some (.int v1), some (.int v2), some (.int v3), none, some (.int v5)] [] w := by
  unfold f_M_sort_111 at h
  refine av_iconst (v := (0 : Int32)) K d_M_sort_111 (by decide) ?_
  exact v_M_sort_112 K G hr fu k31 k41 k68 hk31 hk41 hk68 (v0) (v1) (v2) (v3) (v5) ((0 : Int32)) _ h
set_option maxRecDepth 100000 in
set_option maxHeartbeats 4000000 in
theorem v_M_sort_68 (K : av_K p s m args meth c D cl8 ca A b_M_sort 6 R_M WS) (G : av_G NS tabON A s s.heap) (hr : meth.sig.returnType = none) (fu : Nat) {r : List va_E} (k31 : Nat → Int32 → Int32 → List va_E → Option (List va_E)) (k41 : Nat → Int32 → Int32 → Int32 → List va_E → Option (List va_E)) (hk31 : ∀ (v0 : Nat) (v1 : Int32) (v2 : Int32) (w : List va_E), k31 v0 v1 v2 w = some r → av_VV p l e rm_M_sort s m args below meth c D cl8 A ad ca 6 r 31 [some (.ref v0), some (.int v1), some (.int v2), none, none, none] [] w) (hk41 : ∀ (v0 : Nat) (v1 : Int32) (v2 : Int32) (v3 : Int32) (w : List va_E), k41 v0 v1 v2 v3 w = some r → av_VV p l e rm_M_sort s m args below meth c D cl8 A ad ca 6 r 41 [some (.ref v0), some (.int v1), some (.int v2), some (.int v3), none, none] [] w) : ∀ (n : Nat) (v0 : Nat) (v1 : Int32) (v2 : Int32) (v3 : Int32) (v4 : Int32) (v5 : Int32) (w : List va_E), f_M_sort_68 fu k31 k41 n v0 v1 v2 v3 v4 v5 w = some r → av_VV p l e rm_M_sort s m args below meth c D cl8 A ad ca 6 r 68 [some (.ref v0), some (.int v1), some (.int v2), some (.int v3), some (.int v4), some (.int v5)] [] w := by
  intro n
  induction n with
  | zero => intro _ _ _ _ _ _ _ h; cases h
  | succ n ih =>
    intro v0 v1 v2 v3 v4 v5 w h
    unfold f_M_sort_68 at h
    refine av_iload K d_M_sort_68 rfl ?_
    refine av_aload_n K d_M_sort_70 rfl rfl ?_
    obtain ⟨x1, ex1, h⟩ := hp_bd h
    refine hv_gi K fl_M_64 d_M_sort_71 ex1 ?_
    refine av_icmp_ge (tgt := 120) K d_M_sort_74 rfl (fun hc => ?_) (fun hc => ?_)
    · rw [if_pos hc] at h
      refine av_iload K d_M_sort_120 rfl ?_
      refine av_if_eq (tgt := 142) K d_M_sort_122 rfl (fun hc => ?_) (fun hc => ?_)
      · rw [if_pos hc] at h
        refine hv_fg (L' := [some (.ref v0), some (.int v1), some (.int v2), some (.int v3), none, none]) [4, 5] rfl ?_
        exact v_M_sort_142 K G hr fu k31 k41 hk31 hk41 (v0) (v1) (v2) (v3) _ h
      · rw [if_neg hc] at h
        refine av_aload_n K d_M_sort_125 rfl rfl ?_
        obtain ⟨q2, eq2, h⟩ := hp_bd h
        refine hv_gr K fl_M_36 d_M_sort_126 eq2 ?_
        refine av_iload_n K d_M_sort_129 rfl rfl ?_
        refine av_iconst (v := (1 : Int32)) K d_M_sort_130 (by decide) ?_
        obtain ⟨w3, ew3, h⟩ := hp_bd h
        refine hv_wz K d_M_sort_131 ew3 ?_
        refine av_aload_n K d_M_sort_132 rfl rfl ?_
        obtain ⟨q4, eq4, h⟩ := hp_bd h
        refine hv_gr K fl_M_39 d_M_sort_133 eq4 ?_
        refine av_iload_n K d_M_sort_136 rfl rfl ?_
        refine av_iload_n K d_M_sort_137 rfl rfl ?_
        obtain ⟨w5, ew5, h⟩ := hp_bd h
        refine hv_wi K d_M_sort_138 ew5 ?_
        refine av_iinc (v := (v1 + (1 : Int32))) (L' := [some (.ref v0), some (.int (v1 + (1 : Int32))), some (.int v2), some (.int v3), some (.int v4), some (.int v5)]) K d_M_sort_139 rfl (congrArg (fun z => v1 + z) (show Int32.ofInt 1 = (1 : Int32) by decide)) (Nat.le_of_ble_eq_true rfl) rfl ?_
        refine hv_fg (L' := [some (.ref v0), some (.int (v1 + (1 : Int32))), some (.int v2), some (.int v3), none, none]) [4, 5] rfl ?_
        exact v_M_sort_142 K G hr fu k31 k41 hk31 hk41 (v0) ((v1 + (1 : Int32))) (v2) (v3) _ h
    · rw [if_neg hc] at h
      refine av_iload K d_M_sort_77 rfl ?_
      refine av_if_eq (tgt := 111) K d_M_sort_79 rfl (fun hc => ?_) (fun hc => ?_)
      · rw [if_pos hc] at h
        refine hv_fg (L' := [some (.ref v0), some (.int v1), some (.int v2), some (.int v3), none, some (.int v5)]) [4] rfl ?_
        exact v_M_sort_111 K G hr fu k31 k41 (f_M_sort_68 fu k31 k41 n) hk31 hk41 ih (v0) (v1) (v2) (v3) (v5) _ h
      · rw [if_neg hc] at h
        refine av_aload_n K d_M_sort_82 rfl rfl ?_
        obtain ⟨q6, eq6, h⟩ := hp_bd h
        refine hv_gr K fl_M_32 d_M_sort_83 eq6 ?_
        refine av_bipush (v := (12 : Int32)) K d_M_sort_86 (by decide) ?_
        refine av_iload_n K d_M_sort_88 rfl rfl ?_
        refine av_imul K d_M_sort_89 ?_
        refine av_iload K d_M_sort_90 rfl ?_
        refine av_iadd K d_M_sort_92 ?_
        obtain ⟨x7, ex7, h⟩ := hp_bd h
        refine hv_rz K d_M_sort_93 ex7 ?_
        refine av_if_eq (tgt := 107) K d_M_sort_94 rfl (fun hc => ?_) (fun hc => ?_)
        · rw [if_pos hc] at h
          refine hv_fg (L' := [some (.ref v0), some (.int v1), some (.int v2), some (.int v3), none, some (.int v5)]) [4] rfl ?_
          exact v_M_sort_107 K G hr fu k31 k41 (f_M_sort_68 fu k31 k41 n) hk31 hk41 ih (v0) (v1) (v2) (v3) (v5) _ h
        · rw [if_neg hc] at h
          refine av_aload_n K d_M_sort_97 rfl rfl ?_
          obtain ⟨q8, eq8, h⟩ := hp_bd h
          refine hv_gr K fl_M_36 d_M_sort_98 eq8 ?_
          refine av_iload K d_M_sort_101 rfl ?_
          obtain ⟨x9, ex9, h⟩ := hp_bd h
          refine hv_rz K d_M_sort_103 ex9 ?_
          refine av_if_eq (tgt := 111) K d_M_sort_104 rfl (fun hc => ?_) (fun hc => ?_)
          · rw [if_pos hc] at h
            refine hv_fg (L' := [some (.ref v0), some (.int v1), some (.int v2), some (.int v3), none, some (.int v5)]) [4] rfl ?_
            exact v_M_sort_111 K G hr fu k31 k41 (f_M_sort_68 fu k31 k41 n) hk31 hk41 ih (v0) (v1) (v2) (v3) (v5) _ h
          · rw [if_neg hc] at h
            refine hv_fg (L' := [some (.ref v0), some (.int v1), some (.int v2), some (.int v3), none, some (.int v5)]) [4] rfl ?_
            exact v_M_sort_107 K G hr fu k31 k41 (f_M_sort_68 fu k31 k41 n) hk31 hk41 ih (v0) (v1) (v2) (v3) (v5) _ h
set_option maxRecDepth 100000 in
set_option maxHeartbeats 4000000 in
theorem v_M_sort_63 (K : av_K p s m args meth c D cl8 ca A b_M_sort 6 R_M WS) (G : av_G NS tabON A s s.heap) (hr : meth.sig.returnType = none) (fu : Nat) {r : List va_E} (k31 : Nat → Int32 → Int32 → List va_E → Option (List va_E)) (k41 : Nat → Int32 → Int32 → Int32 → List va_E → Option (List va_E)) (hk31 : ∀ (v0 : Nat) (v1 : Int32) (v2 : Int32) (w : List va_E), k31 v0 v1 v2 w = some r → av_VV p l e rm_M_sort s m args below meth c D cl8 A ad ca 6 r 31 [some (.ref v0), some (.int v1), some (.int v2), none, none, none] [] w) (hk41 : ∀ (v0 : Nat) (v1 : Int32) (v2 : Int32) (v3 : Int32) (w : List va_E), k41 v0 v1 v2 v3 w = some r → av_VV p l e rm_M_sort s m args below meth c D cl8 A ad ca 6 r 41 [some (.ref v0), some (.int v1), some (.int v2), some (.int v3), none, none] [] w) (v0 : Nat) (v1 : Int32) (v2 : Int32) (v3 : Int32) (s0 : Int32) (w : List va_E) (h : f_M_sort_63 fu k31 k41 v0 v1 v2 v3 s0 w = some r) : av_VV p l e rm_M_sort s m args below meth c D cl8 A ad ca 6 r 63 [some (.ref v0), some (.int v1), some (.int v2), some (.int v3), none, none] [.int s0] w := by
  unfold f_M_sort_63 at h
  refine av_istore (L' := [some (.ref v0), some (.int v1), some (.int v2), some (.int v3), some (.int s0), none]) K d_M_sort_63 (Nat.le_of_ble_eq_true rfl) rfl ?_
  refine av_iconst (v := (0 : Int32)) K d_M_sort_65 (by decide) ?_
  refine av_istore (L' := [some (.ref v0), some (.int v1), some (.int v2), some (.int v3), some (.int s0), some (.int (0 : Int32))]) K d_M_sort_66 (Nat.le_of_ble_eq_true rfl) rfl ?_
  exact v_M_sort_68 K G hr fu k31 k41 hk31 hk41 fu (v0) (v1) (v2) (v3) (s0) ((0 : Int32)) _ h
set_option maxRecDepth 100000 in
set_option maxHeartbeats 4000000 in
theorem v_M_sort_41 (K : av_K p s m args meth c D cl8 ca A b_M_sort 6 R_M WS) (G : av_G NS tabON A s s.heap) (hr : meth.sig.returnType = none) (fu : Nat) {r : List va_E} (k31 : Nat → Int32 → Int32 → List va_E → Option (List va_E)) (hk31 : ∀ (v0 : Nat) (v1 : Int32) (v2 : Int32) (w : List va_E), k31 v0 v1 v2 w = some r → av_VV p l e rm_M_sort s m args below meth c D cl8 A ad ca 6 r 31 [some (.ref v0), some (.int v1), some (.int v2), none, none, none] [] w) : ∀ (n : Nat) (v0 : Nat) (v1 : Int32) (v2 : Int32) (v3 : Int32) (w : List va_E), f_M_sort_41 fu k31 n v0 v1 v2 v3 w = some r → av_VV p l e rm_M_sort s m args below meth c D cl8 A ad ca 6 r 41 [some (.ref v0), some (.int v1), some (.int v2), some (.int v3), none, none] [] w := by
  intro n
  induction n with
  | zero => intro _ _ _ _ _ h; cases h
  | succ n ih =>
    intro v0 v1 v2 v3 w h
    unfold f_M_sort_41 at h
    refine av_iload_n K d_M_sort_41 rfl rfl ?_
    refine av_aload_n K d_M_sort_42 rfl rfl ?_
    obtain ⟨x1, ex1, h⟩ := hp_bd h
    refine hv_gi K fl_M_64 d_M_sort_43 ex1 ?_
    refine av_icmp_ge (tgt := 148) K d_M_sort_46 rfl (fun hc => ?_) (fun hc => ?_)
    · rw [if_pos hc] at h
      refine av_iinc (v := (v2 + (1 : Int32))) (L' := [some (.ref v0), some (.int v1), some (.int (v2 + (1 : Int32))), some (.int v3), none, none]) K d_M_sort_148 rfl (congrArg (fun z => v2 + z) (show Int32.ofInt 1 = (1 : Int32) by decide)) (Nat.le_of_ble_eq_true rfl) rfl ?_
      refine av_goto (tgt := 31) K d_M_sort_151 rfl ?_
      refine hv_fg (L' := [some (.ref v0), some (.int v1), some (.int (v2 + (1 : Int32))), none, none, none]) [3] rfl ?_
      exact hk31 (v0) (v1) ((v2 + (1 : Int32))) _ h
    · rw [if_neg hc] at h
      refine av_aload_n K d_M_sort_49 rfl rfl ?_
      obtain ⟨q2, eq2, h⟩ := hp_bd h
      refine hv_gr K fl_M_36 d_M_sort_50 eq2 ?_
      refine av_iload_n K d_M_sort_53 rfl rfl ?_
      obtain ⟨x3, ex3, h⟩ := hp_bd h
      refine hv_rz K d_M_sort_54 ex3 ?_
      refine av_if_ne (tgt := 62) K d_M_sort_55 rfl (fun hc => ?_) (fun hc => ?_)
      · rw [if_neg hc] at h
        refine av_iconst (v := (0 : Int32)) K d_M_sort_62 (by decide) ?_
        exact v_M_sort_63 K G hr fu k31 (f_M_sort_41 fu k31 n) hk31 ih (v0) (v1) (v2) (v3) ((0 : Int32)) _ h
      · rw [if_pos hc] at h
        refine av_iconst (v := (1 : Int32)) K d_M_sort_58 (by decide) ?_
        refine av_goto (tgt := 63) K d_M_sort_59 rfl ?_
        exact v_M_sort_63 K G hr fu k31 (f_M_sort_41 fu k31 n) hk31 ih (v0) (v1) (v2) (v3) ((1 : Int32)) _ h
set_option maxRecDepth 100000 in
set_option maxHeartbeats 4000000 in
theorem v_M_sort_31 (K : av_K p s m args meth c D cl8 ca A b_M_sort 6 R_M WS) (G : av_G NS tabON A s s.heap) (hr : meth.sig.returnType = none) (fu : Nat) {r : List va_E} : ∀ (n : Nat) (v0 : Nat) (v1 : Int32) (v2 : Int32) (w : List va_E), f_M_sort_31 fu n v0 v1 v2 w = some r → av_VV p l e rm_M_sort s m args below meth c D cl8 A ad ca 6 r 31 [some (.ref v0), some (.int v1), some (.int v2), none, none, none] [] w := by
  intro n
  induction n with
  | zero => intro _ _ _ _ h; cases h
  | succ n ih =>
    intro v0 v1 v2 w h
    unfold f_M_sort_31 at h
    refine av_iload_n K d_M_sort_31 rfl rfl ?_
    refine av_aload_n K d_M_sort_32 rfl rfl ?_
    obtain ⟨x1, ex1, h⟩ := hp_bd h
    refine hv_gi K fl_M_64 d_M_sort_33 ex1 ?_
    refine av_icmp_ge (tgt := 154) K d_M_sort_36 rfl (fun hc => ?_) (fun hc => ?_)
    · rw [if_pos hc] at h
      obtain rfl := Option.some.inj h
      exact av_return K hr d_M_sort_154 rfl
    · rw [if_neg hc] at h
      refine av_iconst (v := (0 : Int32)) K d_M_sort_39 (by decide) ?_
      refine av_istore_n (L' := [some (.ref v0), some (.int v1), some (.int v2), some (.int (0 : Int32)), none, none]) K d_M_sort_40 rfl (Nat.le_of_ble_eq_true rfl) rfl ?_
      exact v_M_sort_41 K G hr fu (f_M_sort_31 fu n) ih fu (v0) (v1) (v2) ((0 : Int32)) _ h
set_option maxRecDepth 100000 in
set_option maxHeartbeats 4000000 in
theorem v_M_sort_8 (K : av_K p s m args meth c D cl8 ca A b_M_sort 6 R_M WS) (G : av_G NS tabON A s s.heap) (hr : meth.sig.returnType = none) (fu : Nat) {r : List va_E} : ∀ (n : Nat) (v0 : Nat) (v1 : Int32) (v2 : Int32) (w : List va_E), f_M_sort_8 fu n v0 v1 v2 w = some r → av_VV p l e rm_M_sort s m args below meth c D cl8 A ad ca 6 r 8 [some (.ref v0), some (.int v1), some (.int v2), none, none, none] [] w := by
  intro n
  induction n with
  | zero => intro _ _ _ _ h; cases h
  | succ n ih =>
    intro v0 v1 v2 w h
    unfold f_M_sort_8 at h
    refine av_iload_n K d_M_sort_8 rfl rfl ?_
    refine av_aload_n K d_M_sort_9 rfl rfl ?_
    obtain ⟨x1, ex1, h⟩ := hp_bd h
    refine hv_gi K fl_M_64 d_M_sort_10 ex1 ?_
    refine av_icmp_ge (tgt := 29) K d_M_sort_13 rfl (fun hc => ?_) (fun hc => ?_)
    · rw [if_pos hc] at h
      refine av_iconst (v := (0 : Int32)) K d_M_sort_29 (by decide) ?_
      refine av_istore_n (L' := [some (.ref v0), some (.int v1), some (.int (0 : Int32)), none, none, none]) K d_M_sort_30 rfl (Nat.le_of_ble_eq_true rfl) rfl ?_
      exact v_M_sort_31 K G hr fu fu (v0) (v1) ((0 : Int32)) _ h
    · rw [if_neg hc] at h
      refine av_aload_n K d_M_sort_16 rfl rfl ?_
      obtain ⟨q2, eq2, h⟩ := hp_bd h
      refine hv_gr K fl_M_36 d_M_sort_17 eq2 ?_
      refine av_iload_n K d_M_sort_20 rfl rfl ?_
      refine av_iconst (v := (0 : Int32)) K d_M_sort_21 (by decide) ?_
      obtain ⟨w3, ew3, h⟩ := hp_bd h
      refine hv_wz K d_M_sort_22 ew3 ?_
      refine av_iinc (v := (v2 + (1 : Int32))) (L' := [some (.ref v0), some (.int v1), some (.int (v2 + (1 : Int32))), none, none, none]) K d_M_sort_23 rfl (congrArg (fun z => v2 + z) (show Int32.ofInt 1 = (1 : Int32) by decide)) (Nat.le_of_ble_eq_true rfl) rfl ?_
      refine av_goto (tgt := 8) K d_M_sort_26 rfl ?_
      exact ih (v0) (v1) ((v2 + (1 : Int32))) _ h
set_option maxRecDepth 100000 in
set_option maxHeartbeats 4000000 in
theorem v_M_sort (K : av_K p s m args meth c D cl8 ca A b_M_sort 6 R_M WS) (G : av_G NS tabON A s s.heap) (hr : meth.sig.returnType = none) (fu : Nat) {r : List va_E} (v0 : Nat) (w : List va_E) (h : f_M_sort fu v0 w = some r) : av_VV p l e rm_M_sort s m args below meth c D cl8 A ad ca 6 r 0 [some (.ref v0), none, none, none, none, none] [] w := by
  unfold f_M_sort at h
  refine av_aload_n K d_M_sort_0 rfl rfl ?_
  obtain ⟨_, eo1, h⟩ := hp_bd h
  obtain ⟨r1, er1, h⟩ := hp_bd h
  obtain ⟨fs1, ho1⟩ := hp_is_of eo1
  refine av_cVv K G (c_M_findBelow (tab := tabON) er1) (cwV 0 K.2.2.2.2.1 (gV ml_M_78 im_M_findBelow se_M_findBelow in_M co_M_findBelow) rfl rfl rfl cd_M_findBelow ⟨Nat.le_of_ble_eq_true rfl, Nat.le_of_ble_eq_true rfl⟩) rfl ho1 rfl rfl (Nat.le_of_ble_eq_true rfl) d_M_sort_1 ⟨Nat.zero_le _, Nat.zero_le _⟩ (fun u9 h9 => ?_)
  subst h9
  refine av_iconst (v := (0 : Int32)) K d_M_sort_4 (by decide) ?_
  refine av_istore_n (L' := [some (.ref v0), some (.int (0 : Int32)), none, none, none, none]) K d_M_sort_5 rfl (Nat.le_of_ble_eq_true rfl) rfl ?_
  refine av_iconst (v := (0 : Int32)) K d_M_sort_6 (by decide) ?_
  refine av_istore_n (L' := [some (.ref v0), some (.int (0 : Int32)), some (.int (0 : Int32)), none, none, none]) K d_M_sort_7 rfl (Nat.le_of_ble_eq_true rfl) rfl ?_
  exact v_M_sort_8 K G hr fu fu (v0) ((0 : Int32)) ((0 : Int32)) _ h
end
set_option maxRecDepth 100000 in
theorem c_M_sort {l : Launch} {D : va_G} {ca : Nat → Nat} {tab : Nat → Int64} {fu : Nat} {v0 : Nat} {w : List va_E} {r : List va_E} (h : f_M_sort fu v0 w = some r) : av_Cv l D cl8 ca NS tabON y_M_sort w_M_sort rm_M_sort [.ref v0] w (fun u => u = r) :=
  av_inV (cc := b_M_sort) (nL := 6) (by decide +kernel) rfl (Nat.le_of_ble_eq_true rfl) (fun p e s m args below meth c A ad K G hr => v_M_sort K G hr fu v0 w h)

-- FaultTreeDeskModel.isOn(II)Z
theorem d_M_isOn_0 : decode b_M_isOn 0 = .ok (.iload_n 1, 1) := by decide +kernel
theorem d_M_isOn_1 : decode b_M_isOn 1 = .ok (.bipush 16, 2) := by decide +kernel
theorem d_M_isOn_3 : decode b_M_isOn 3 = .ok (.if_icmp .lt 13, 3) := by decide +kernel
theorem d_M_isOn_6 : decode b_M_isOn 6 = .ok (.aload_n 0, 1) := by decide +kernel
theorem d_M_isOn_7 : decode b_M_isOn 7 = .ok (.getfield 42, 3) := by decide +kernel
theorem d_M_isOn_10 : decode b_M_isOn 10 = .ok (.iload_n 1, 1) := by decide +kernel
theorem d_M_isOn_11 : decode b_M_isOn 11 = .ok (.bipush 16, 2) := by decide +kernel
theorem d_M_isOn_13 : decode b_M_isOn 13 = .ok (.isub, 1) := by decide +kernel
theorem d_M_isOn_14 : decode b_M_isOn 14 = .ok (.baload, 1) := by decide +kernel
theorem d_M_isOn_15 : decode b_M_isOn 15 = .ok (.ireturn, 1) := by decide +kernel
theorem d_M_isOn_16 : decode b_M_isOn 16 = .ok (.aload_n 0, 1) := by decide +kernel
theorem d_M_isOn_17 : decode b_M_isOn 17 = .ok (.getfield 13, 3) := by decide +kernel
theorem d_M_isOn_20 : decode b_M_isOn 20 = .ok (.iload_n 1, 1) := by decide +kernel
theorem d_M_isOn_21 : decode b_M_isOn 21 = .ok (.iaload, 1) := by decide +kernel
theorem d_M_isOn_22 : decode b_M_isOn 22 = .ok (.ifCond .ne 20, 3) := by decide +kernel
theorem d_M_isOn_25 : decode b_M_isOn 25 = .ok (.iload_n 2, 1) := by decide +kernel
theorem d_M_isOn_26 : decode b_M_isOn 26 = .ok (.iload_n 1, 1) := by decide +kernel
theorem d_M_isOn_27 : decode b_M_isOn 27 = .ok (.ishr, 1) := by decide +kernel
theorem d_M_isOn_28 : decode b_M_isOn 28 = .ok (.iconst 1, 1) := by decide +kernel
theorem d_M_isOn_29 : decode b_M_isOn 29 = .ok (.iand, 1) := by decide +kernel
theorem d_M_isOn_30 : decode b_M_isOn 30 = .ok (.iconst 1, 1) := by decide +kernel
theorem d_M_isOn_31 : decode b_M_isOn 31 = .ok (.if_icmp .ne 7, 3) := by decide +kernel
theorem d_M_isOn_34 : decode b_M_isOn 34 = .ok (.iconst 1, 1) := by decide +kernel
theorem d_M_isOn_35 : decode b_M_isOn 35 = .ok (.goto 22, 3) := by decide +kernel
theorem d_M_isOn_38 : decode b_M_isOn 38 = .ok (.iconst 0, 1) := by decide +kernel
theorem d_M_isOn_39 : decode b_M_isOn 39 = .ok (.goto 18, 3) := by decide +kernel
theorem d_M_isOn_42 : decode b_M_isOn 42 = .ok (.aload_n 0, 1) := by decide +kernel
theorem d_M_isOn_43 : decode b_M_isOn 43 = .ok (.getfield 13, 3) := by decide +kernel
theorem d_M_isOn_46 : decode b_M_isOn 46 = .ok (.iload_n 1, 1) := by decide +kernel
theorem d_M_isOn_47 : decode b_M_isOn 47 = .ok (.iaload, 1) := by decide +kernel
theorem d_M_isOn_48 : decode b_M_isOn 48 = .ok (.iconst 2, 1) := by decide +kernel
theorem d_M_isOn_49 : decode b_M_isOn 49 = .ok (.if_icmp .ne 7, 3) := by decide +kernel
theorem d_M_isOn_52 : decode b_M_isOn 52 = .ok (.iconst 1, 1) := by decide +kernel
theorem d_M_isOn_53 : decode b_M_isOn 53 = .ok (.goto 4, 3) := by decide +kernel
theorem d_M_isOn_56 : decode b_M_isOn 56 = .ok (.iconst 0, 1) := by decide +kernel
theorem d_M_isOn_57 : decode b_M_isOn 57 = .ok (.ireturn, 1) := by decide +kernel
def rm_M_isOn : Room := { frames := 0, cells := 0, slots := 0, locals := 0 }
def f_M_isOn_57 (fu : Nat) (s0 : Int32) (w : List va_E) : Option (Int32 × List va_E) := (if s0 = 0 ∨ s0 = 1 then some (s0, w) else none)
def f_M_isOn (fu : Nat) (v0 : Nat) (v1 : Int32) (v2 : Int32) (w : List va_E) : Option (Int32 × List va_E) := (if v1 < (16 : Int32) then ((hp_gr w v0 7 3).bind fun q1 => ((hp_ri w q1 v1).bind fun x2 => (if x2 = 0 then (if ((v2 >>> (v1 &&& 31)) &&& (1 : Int32)) = (1 : Int32) then (f_M_isOn_57 fu ((1 : Int32)) w) else (f_M_isOn_57 fu ((0 : Int32)) w)) else ((hp_gr w v0 7 3).bind fun q3 => ((hp_ri w q3 v1).bind fun x4 => (if x4 = (2 : Int32) then (f_M_isOn_57 fu ((1 : Int32)) w) else (f_M_isOn_57 fu ((0 : Int32)) w))))))) else ((hp_gr w v0 7 13).bind fun q5 => ((hp_rz w q5 (v1 - (16 : Int32))).bind fun x6 => (if x6 = 0 ∨ x6 = 1 then some (x6, w) else none))))
section
variable {p : Program} {l : Launch} {e : Env} {s : State} {m : MethodId} {args : Array Value} {below : List Frame} {meth : Method} {c : Code} {D : va_G} {ca : Nat → Nat} {A : Nat → Prop} {ad : Nat → Nat}
set_option maxRecDepth 100000 in
set_option maxHeartbeats 4000000 in
theorem v_M_isOn_57 (K : av_K p s m args meth c D cl8 ca A b_M_isOn 3 R_M WS) (G : av_G NS tabON A s s.heap) (hr : meth.sig.returnType = some .boolean) (fu : Nat) {r : Int32 × List va_E} (s0 : Int32) (w : List va_E) (h : f_M_isOn_57 fu s0 w = some r) : av_VI p l e rm_M_isOn s m args below meth c D cl8 A ad ca 3 r 57 [none, none, none] [.int s0] w := by
  unfold f_M_isOn_57 at h
  obtain ⟨hz, h⟩ := hp_if h
  obtain rfl := Option.some.inj h
  exact av_zreturn K hr (hp_nz hz) d_M_isOn_57 rfl
set_option maxRecDepth 100000 in
set_option maxHeartbeats 4000000 in
theorem v_M_isOn (K : av_K p s m args meth c D cl8 ca A b_M_isOn 3 R_M WS) (G : av_G NS tabON A s s.heap) (hr : meth.sig.returnType = some .boolean) (fu : Nat) {r : Int32 × List va_E} (v0 : Nat) (v1 : Int32) (v2 : Int32) (w : List va_E) (h : f_M_isOn fu v0 v1 v2 w = some r) : av_VI p l e rm_M_isOn s m args below meth c D cl8 A ad ca 3 r 0 [some (.ref v0), some (.int v1), some (.int v2)] [] w := by
  unfold f_M_isOn at h
  refine av_iload_n K d_M_isOn_0 rfl rfl ?_
  refine av_bipush (v := (16 : Int32)) K d_M_isOn_1 (by decide) ?_
  refine av_icmp_lt (tgt := 16) K d_M_isOn_3 rfl (fun hc => ?_) (fun hc => ?_)
  · rw [if_pos hc] at h
    refine av_aload_n K d_M_isOn_16 rfl rfl ?_
    obtain ⟨q1, eq1, h⟩ := hp_bd h
    refine hv_gr K fl_M_13 d_M_isOn_17 eq1 ?_
    refine av_iload_n K d_M_isOn_20 rfl rfl ?_
    obtain ⟨x2, ex2, h⟩ := hp_bd h
    refine hv_ri K d_M_isOn_21 ex2 ?_
    refine av_if_ne (tgt := 42) K d_M_isOn_22 rfl (fun hc => ?_) (fun hc => ?_)
    · rw [if_neg hc] at h
      refine av_aload_n K d_M_isOn_42 rfl rfl ?_
      obtain ⟨q3, eq3, h⟩ := hp_bd h
      refine hv_gr K fl_M_13 d_M_isOn_43 eq3 ?_
      refine av_iload_n K d_M_isOn_46 rfl rfl ?_
      obtain ⟨x4, ex4, h⟩ := hp_bd h
      refine hv_ri K d_M_isOn_47 ex4 ?_
      refine av_iconst (v := (2 : Int32)) K d_M_isOn_48 (by decide) ?_
      refine av_icmp_ne (tgt := 56) K d_M_isOn_49 rfl (fun hc => ?_) (fun hc => ?_)
      · rw [if_neg hc] at h
        refine av_iconst (v := (0 : Int32)) K d_M_isOn_56 (by decide) ?_
        refine hv_fg (L' := [none, none, none]) [0, 1, 2] rfl ?_
        exact v_M_isOn_57 K G hr fu ((0 : Int32)) _ h
      · rw [if_pos hc] at h
        refine av_iconst (v := (1 : Int32)) K d_M_isOn_52 (by decide) ?_
        refine av_goto (tgt := 57) K d_M_isOn_53 rfl ?_
        refine hv_fg (L' := [none, none, none]) [0, 1, 2] rfl ?_
        exact v_M_isOn_57 K G hr fu ((1 : Int32)) _ h
    · rw [if_pos hc] at h
      refine av_iload_n K d_M_isOn_25 rfl rfl ?_
      refine av_iload_n K d_M_isOn_26 rfl rfl ?_
      refine av_ishr K d_M_isOn_27 ?_
      refine av_iconst (v := (1 : Int32)) K d_M_isOn_28 (by decide) ?_
      refine av_iand K d_M_isOn_29 ?_
      refine av_iconst (v := (1 : Int32)) K d_M_isOn_30 (by decide) ?_
      refine av_icmp_ne (tgt := 38) K d_M_isOn_31 rfl (fun hc => ?_) (fun hc => ?_)
      · rw [if_neg hc] at h
        refine av_iconst (v := (0 : Int32)) K d_M_isOn_38 (by decide) ?_
        refine av_goto (tgt := 57) K d_M_isOn_39 rfl ?_
        refine hv_fg (L' := [none, none, none]) [0, 1, 2] rfl ?_
        exact v_M_isOn_57 K G hr fu ((0 : Int32)) _ h
      · rw [if_pos hc] at h
        refine av_iconst (v := (1 : Int32)) K d_M_isOn_34 (by decide) ?_
        refine av_goto (tgt := 57) K d_M_isOn_35 rfl ?_
        refine hv_fg (L' := [none, none, none]) [0, 1, 2] rfl ?_
        exact v_M_isOn_57 K G hr fu ((1 : Int32)) _ h
  · rw [if_neg hc] at h
    refine av_aload_n K d_M_isOn_6 rfl rfl ?_
    obtain ⟨q5, eq5, h⟩ := hp_bd h
    refine hv_gr K fl_M_42 d_M_isOn_7 eq5 ?_
    refine av_iload_n K d_M_isOn_10 rfl rfl ?_
    refine av_bipush (v := (16 : Int32)) K d_M_isOn_11 (by decide) ?_
    refine av_isub K d_M_isOn_13 ?_
    obtain ⟨x6, ex6, h⟩ := hp_bd h
    refine hv_rz K d_M_isOn_14 ex6 ?_
    obtain ⟨hz, h⟩ := hp_if h
    obtain rfl := Option.some.inj h
    exact av_zreturn K hr (hp_nz hz) d_M_isOn_15 rfl
end
set_option maxRecDepth 100000 in
theorem c_M_isOn {l : Launch} {D : va_G} {ca : Nat → Nat} {tab : Nat → Int64} {fu : Nat} {v0 : Nat} {v1 : Int32} {v2 : Int32} {w : List va_E} {r : Int32 × List va_E} (h : f_M_isOn fu v0 v1 v2 w = some r) : av_Ci l D cl8 ca NS tabON y_M_isOn w_M_isOn rm_M_isOn [.ref v0, .int v1, .int v2] w (fun v u => (v, u) = r) :=
  av_inI (cc := b_M_isOn) (nL := 3) (by decide +kernel) rfl (Nat.le_of_ble_eq_true rfl) (fun p e s m args below meth c A ad K G hr => v_M_isOn K G hr fu v0 v1 v2 w h)

-- FaultTreeDeskModel.work()V
theorem d_M_work_0 : decode b_M_work 0 = .ok (.aload_n 0, 1) := by decide +kernel
theorem d_M_work_1 : decode b_M_work 1 = .ok (.invokevirtual 81, 3) := by decide +kernel
theorem d_M_work_4 : decode b_M_work 4 = .ok (.iconst 0, 1) := by decide +kernel
theorem d_M_work_5 : decode b_M_work 5 = .ok (.istore_n 1, 1) := by decide +kernel
theorem d_M_work_6 : decode b_M_work 6 = .ok (.iload_n 1, 1) := by decide +kernel
theorem d_M_work_7 : decode b_M_work 7 = .ok (.iconst 1, 1) := by decide +kernel
theorem d_M_work_8 : decode b_M_work 8 = .ok (.aload_n 0, 1) := by decide +kernel
theorem d_M_work_9 : decode b_M_work 9 = .ok (.getfield 61, 3) := by decide +kernel
theorem d_M_work_12 : decode b_M_work 12 = .ok (.ishl, 1) := by decide +kernel
theorem d_M_work_13 : decode b_M_work 13 = .ok (.if_icmp .ge 215, 3) := by decide +kernel
theorem d_M_work_16 : decode b_M_work 16 = .ok (.iconst 0, 1) := by decide +kernel
theorem d_M_work_17 : decode b_M_work 17 = .ok (.istore_n 2, 1) := by decide +kernel
theorem d_M_work_18 : decode b_M_work 18 = .ok (.iload_n 2, 1) := by decide +kernel
theorem d_M_work_19 : decode b_M_work 19 = .ok (.aload_n 0, 1) := by decide +kernel
theorem d_M_work_20 : decode b_M_work 20 = .ok (.getfield 64, 3) := by decide +kernel
theorem d_M_work_23 : decode b_M_work 23 = .ok (.if_icmp .ge 184, 3) := by decide +kernel
theorem d_M_work_26 : decode b_M_work 26 = .ok (.aload_n 0, 1) := by decide +kernel
theorem d_M_work_27 : decode b_M_work 27 = .ok (.getfield 39, 3) := by decide +kernel
theorem d_M_work_30 : decode b_M_work 30 = .ok (.iload_n 2, 1) := by decide +kernel
theorem d_M_work_31 : decode b_M_work 31 = .ok (.iaload, 1) := by decide +kernel
theorem d_M_work_32 : decode b_M_work 32 = .ok (.istore_n 3, 1) := by decide +kernel
theorem d_M_work_33 : decode b_M_work 33 = .ok (.iconst 0, 1) := by decide +kernel
theorem d_M_work_34 : decode b_M_work 34 = .ok (.istore 4, 2) := by decide +kernel
theorem d_M_work_36 : decode b_M_work 36 = .ok (.iconst 4, 1) := by decide +kernel
theorem d_M_work_37 : decode b_M_work 37 = .ok (.iload_n 3, 1) := by decide +kernel
theorem d_M_work_38 : decode b_M_work 38 = .ok (.imul, 1) := by decide +kernel
theorem d_M_work_39 : decode b_M_work 39 = .ok (.istore 5, 2) := by decide +kernel
theorem d_M_work_41 : decode b_M_work 41 = .ok (.iload 5, 2) := by decide +kernel
theorem d_M_work_43 : decode b_M_work 43 = .ok (.iconst 4, 1) := by decide +kernel
theorem d_M_work_44 : decode b_M_work 44 = .ok (.iload_n 3, 1) := by decide +kernel
theorem d_M_work_45 : decode b_M_work 45 = .ok (.imul, 1) := by decide +kernel
theorem d_M_work_46 : decode b_M_work 46 = .ok (.aload_n 0, 1) := by decide +kernel
theorem d_M_work_47 : decode b_M_work 47 = .ok (.getfield 22, 3) := by decide +kernel
theorem d_M_work_50 : decode b_M_work 50 = .ok (.iload_n 3, 1) := by decide +kernel
theorem d_M_work_51 : decode b_M_work 51 = .ok (.iaload, 1) := by decide +kernel
theorem d_M_work_52 : decode b_M_work 52 = .ok (.iadd, 1) := by decide +kernel
theorem d_M_work_53 : decode b_M_work 53 = .ok (.if_icmp .ge 34, 3) := by decide +kernel
theorem d_M_work_56 : decode b_M_work 56 = .ok (.iload 4, 2) := by decide +kernel
theorem d_M_work_58 : decode b_M_work 58 = .ok (.aload_n 0, 1) := by decide +kernel
theorem d_M_work_59 : decode b_M_work 59 = .ok (.aload_n 0, 1) := by decide +kernel
theorem d_M_work_60 : decode b_M_work 60 = .ok (.getfield 25, 3) := by decide +kernel
theorem d_M_work_63 : decode b_M_work 63 = .ok (.iload 5, 2) := by decide +kernel
theorem d_M_work_65 : decode b_M_work 65 = .ok (.iaload, 1) := by decide +kernel
theorem d_M_work_66 : decode b_M_work 66 = .ok (.iload_n 1, 1) := by decide +kernel
theorem d_M_work_67 : decode b_M_work 67 = .ok (.invokevirtual 84, 3) := by decide +kernel
theorem d_M_work_70 : decode b_M_work 70 = .ok (.ifCond .eq 7, 3) := by decide +kernel
theorem d_M_work_73 : decode b_M_work 73 = .ok (.iconst 1, 1) := by decide +kernel
theorem d_M_work_74 : decode b_M_work 74 = .ok (.goto 4, 3) := by decide +kernel
theorem d_M_work_77 : decode b_M_work 77 = .ok (.iconst 0, 1) := by decide +kernel
theorem d_M_work_78 : decode b_M_work 78 = .ok (.iadd, 1) := by decide +kernel
theorem d_M_work_79 : decode b_M_work 79 = .ok (.istore 4, 2) := by decide +kernel
theorem d_M_work_81 : decode b_M_work 81 = .ok (.iinc 5 1, 3) := by decide +kernel
theorem d_M_work_84 : decode b_M_work 84 = .ok (.goto (-43), 3) := by decide +kernel
theorem d_M_work_87 : decode b_M_work 87 = .ok (.aload_n 0, 1) := by decide +kernel
theorem d_M_work_88 : decode b_M_work 88 = .ok (.getfield 16, 3) := by decide +kernel
theorem d_M_work_91 : decode b_M_work 91 = .ok (.iload_n 3, 1) := by decide +kernel
theorem d_M_work_92 : decode b_M_work 92 = .ok (.iaload, 1) := by decide +kernel
theorem d_M_work_93 : decode b_M_work 93 = .ok (.istore 5, 2) := by decide +kernel
theorem d_M_work_95 : decode b_M_work 95 = .ok (.aload_n 0, 1) := by decide +kernel
theorem d_M_work_96 : decode b_M_work 96 = .ok (.getfield 42, 3) := by decide +kernel
theorem d_M_work_99 : decode b_M_work 99 = .ok (.iload_n 3, 1) := by decide +kernel
theorem d_M_work_100 : decode b_M_work 100 = .ok (.iload 5, 2) := by decide +kernel
theorem d_M_work_102 : decode b_M_work 102 = .ok (.ifCond .ne 22, 3) := by decide +kernel
theorem d_M_work_105 : decode b_M_work 105 = .ok (.iload 4, 2) := by decide +kernel
theorem d_M_work_107 : decode b_M_work 107 = .ok (.aload_n 0, 1) := by decide +kernel
theorem d_M_work_108 : decode b_M_work 108 = .ok (.getfield 22, 3) := by decide +kernel
theorem d_M_work_111 : decode b_M_work 111 = .ok (.iload_n 3, 1) := by decide +kernel
theorem d_M_work_112 : decode b_M_work 112 = .ok (.iaload, 1) := by decide +kernel
theorem d_M_work_113 : decode b_M_work 113 = .ok (.if_icmp .ne 7, 3) := by decide +kernel
theorem d_M_work_116 : decode b_M_work 116 = .ok (.iconst 1, 1) := by decide +kernel
theorem d_M_work_117 : decode b_M_work 117 = .ok (.goto 83, 3) := by decide +kernel
theorem d_M_work_120 : decode b_M_work 120 = .ok (.iconst 0, 1) := by decide +kernel
theorem d_M_work_121 : decode b_M_work 121 = .ok (.goto 79, 3) := by decide +kernel
theorem d_M_work_124 : decode b_M_work 124 = .ok (.iload 5, 2) := by decide +kernel
theorem d_M_work_126 : decode b_M_work 126 = .ok (.iconst 1, 1) := by decide +kernel
theorem d_M_work_127 : decode b_M_work 127 = .ok (.if_icmp .ne 16, 3) := by decide +kernel
theorem d_M_work_130 : decode b_M_work 130 = .ok (.iload 4, 2) := by decide +kernel
theorem d_M_work_132 : decode b_M_work 132 = .ok (.ifCond .le 7, 3) := by decide +kernel
theorem d_M_work_135 : decode b_M_work 135 = .ok (.iconst 1, 1) := by decide +kernel
theorem d_M_work_136 : decode b_M_work 136 = .ok (.goto 64, 3) := by decide +kernel
theorem d_M_work_139 : decode b_M_work 139 = .ok (.iconst 0, 1) := by decide +kernel
theorem d_M_work_140 : decode b_M_work 140 = .ok (.goto 60, 3) := by decide +kernel
theorem d_M_work_143 : decode b_M_work 143 = .ok (.iload 5, 2) := by decide +kernel
theorem d_M_work_145 : decode b_M_work 145 = .ok (.iconst 2, 1) := by decide +kernel
theorem d_M_work_146 : decode b_M_work 146 = .ok (.if_icmp .ne 22, 3) := by decide +kernel
theorem d_M_work_149 : decode b_M_work 149 = .ok (.iload 4, 2) := by decide +kernel
theorem d_M_work_151 : decode b_M_work 151 = .ok (.aload_n 0, 1) := by decide +kernel
theorem d_M_work_152 : decode b_M_work 152 = .ok (.getfield 19, 3) := by decide +kernel
theorem d_M_work_155 : decode b_M_work 155 = .ok (.iload_n 3, 1) := by decide +kernel
theorem d_M_work_156 : decode b_M_work 156 = .ok (.iaload, 1) := by decide +kernel
theorem d_M_work_157 : decode b_M_work 157 = .ok (.if_icmp .lt 7, 3) := by decide +kernel
theorem d_M_work_160 : decode b_M_work 160 = .ok (.iconst 1, 1) := by decide +kernel
theorem d_M_work_161 : decode b_M_work 161 = .ok (.goto 39, 3) := by decide +kernel
theorem d_M_work_164 : decode b_M_work 164 = .ok (.iconst 0, 1) := by decide +kernel
theorem d_M_work_165 : decode b_M_work 165 = .ok (.goto 35, 3) := by decide +kernel
theorem d_M_work_168 : decode b_M_work 168 = .ok (.iload 5, 2) := by decide +kernel
theorem d_M_work_170 : decode b_M_work 170 = .ok (.iconst 3, 1) := by decide +kernel
theorem d_M_work_171 : decode b_M_work 171 = .ok (.if_icmp .ne 19, 3) := by decide +kernel
theorem d_M_work_174 : decode b_M_work 174 = .ok (.iload 4, 2) := by decide +kernel
theorem d_M_work_176 : decode b_M_work 176 = .ok (.iconst 2, 1) := by decide +kernel
theorem d_M_work_177 : decode b_M_work 177 = .ok (.irem, 1) := by decide +kernel
theorem d_M_work_178 : decode b_M_work 178 = .ok (.iconst 1, 1) := by decide +kernel
theorem d_M_work_179 : decode b_M_work 179 = .ok (.if_icmp .ne 7, 3) := by decide +kernel
theorem d_M_work_182 : decode b_M_work 182 = .ok (.iconst 1, 1) := by decide +kernel
theorem d_M_work_183 : decode b_M_work 183 = .ok (.goto 17, 3) := by decide +kernel
theorem d_M_work_186 : decode b_M_work 186 = .ok (.iconst 0, 1) := by decide +kernel
theorem d_M_work_187 : decode b_M_work 187 = .ok (.goto 13, 3) := by decide +kernel
theorem d_M_work_190 : decode b_M_work 190 = .ok (.iload 4, 2) := by decide +kernel
theorem d_M_work_192 : decode b_M_work 192 = .ok (.ifCond .ne 7, 3) := by decide +kernel
theorem d_M_work_195 : decode b_M_work 195 = .ok (.iconst 1, 1) := by decide +kernel
theorem d_M_work_196 : decode b_M_work 196 = .ok (.goto 4, 3) := by decide +kernel
theorem d_M_work_199 : decode b_M_work 199 = .ok (.iconst 0, 1) := by decide +kernel
theorem d_M_work_200 : decode b_M_work 200 = .ok (.bastore, 1) := by decide +kernel
theorem d_M_work_201 : decode b_M_work 201 = .ok (.iinc 2 1, 3) := by decide +kernel
theorem d_M_work_204 : decode b_M_work 204 = .ok (.goto (-186), 3) := by decide +kernel
theorem d_M_work_207 : decode b_M_work 207 = .ok (.aload_n 0, 1) := by decide +kernel
theorem d_M_work_208 : decode b_M_work 208 = .ok (.getfield 45, 3) := by decide +kernel
theorem d_M_work_211 : decode b_M_work 211 = .ok (.iload_n 1, 1) := by decide +kernel
theorem d_M_work_212 : decode b_M_work 212 = .ok (.aload_n 0, 1) := by decide +kernel
theorem d_M_work_213 : decode b_M_work 213 = .ok (.getfield 42, 3) := by decide +kernel
theorem d_M_work_216 : decode b_M_work 216 = .ok (.aload_n 0, 1) := by decide +kernel
theorem d_M_work_217 : decode b_M_work 217 = .ok (.getfield 28, 3) := by decide +kernel
theorem d_M_work_220 : decode b_M_work 220 = .ok (.baload, 1) := by decide +kernel
theorem d_M_work_221 : decode b_M_work 221 = .ok (.bastore, 1) := by decide +kernel
theorem d_M_work_222 : decode b_M_work 222 = .ok (.iinc 1 1, 3) := by decide +kernel
theorem d_M_work_225 : decode b_M_work 225 = .ok (.goto (-219), 3) := by decide +kernel
theorem d_M_work_228 : decode b_M_work 228 = .ok (.return_, 1) := by decide +kernel
def rm_M_work : Room := { frames := 2, cells := 0, slots := 0, locals := 47 }
def f_M_work_200 (fu : Nat) (k6 : Nat → Int32 → List va_E → Option (List va_E)) (k18 : Nat → Int32 → Int32 → List va_E → Option (List va_E)) (v0 : Nat) (v1 : Int32) (v2 : Int32) (s0 : Nat) (s1 : Int32) (s2 : Int32) (w : List va_E) : Option (List va_E) := ((hp_wz w s0 s1 s2).bind fun w1 => (k18 (v0) (v1) ((v2 + (1 : Int32))) w1))
def f_M_work_78 (fu : Nat) (k6 : Nat → Int32 → List va_E → Option (List va_E)) (k18 : Nat → Int32 → Int32 → List va_E → Option (List va_E)) (k41 : Nat → Int32 → Int32 → Int32 → Int32 → Int32 → List va_E → Option (List va_E)) (v0 : Nat) (v1 : Int32) (v2 : Int32) (v3 : Int32) (v5 : Int32) (s0 : Int32) (s1 : Int32) (w : List va_E) : Option (List va_E) := (k41 (v0) (v1) (v2) (v3) ((s0 + s1)) ((v5 + (1 : Int32))) w)
def f_M_work_41 (fu : Nat) (k6 : Nat → Int32 → List va_E → Option (List va_E)) (k18 : Nat → Int32 → Int32 → List va_E → Option (List va_E)) : Nat → Nat → Int32 → Int32 → Int32 → Int32 → Int32 → List va_E → Option (List va_E)
  | 0, _, _, _, _, _, _, _ => none
  | n + 1, v0, v1, v2, v3, v4, v5, w => ((hp_gr w v0 7 7).bind fun q1 => ((hp_ri w q1 v3).bind fun x2 => (if (((4 : Int32) * v3) + x2) ≤ v5 then ((hp_gr w v0 7 5).bind fun q3 => ((hp_ri w q3 v3).bind fun x4 => ((hp_gr w v0 7 13).bind fun q5 => (if x4 = 0 then ((hp_gr w v0 7 7).bind fun q8 => ((hp_ri w q8 v3).bind fun x9 => (if v4 = x9 then (f_M_work_200 fu k6 k18 (v0) (v1) (v2) (q5) (v3) ((1 : Int32)) w) else (f_M_work_200 fu k6 k18 (v0) (v1) (v2) (q5) (v3) ((0 : Int32)) w)))) else (if x4 = (1 : Int32) then (if v4 ≤ 0 then (f_M_work_200 fu k6 k18 (v0) (v1) (v2) (q5) (v3) ((0 : Int32)) w) else (f_M_work_200 fu k6 k18 (v0) (v1) (v2) (q5) (v3) ((1 : Int32)) w)) else (if x4 = (2 : Int32) then ((hp_gr w v0 7 6).bind fun q6 => ((hp_ri w q6 v3).bind fun x7 => (if v4 < x7 then (f_M_work_200 fu k6 k18 (v0) (v1) (v2) (q5) (v3) ((0 : Int32)) w) else (f_M_work_200 fu k6 k18 (v0) (v1) (v2) (q5) (v3) ((1 : Int32)) w)))) else (if x4 = (3 : Int32) then (if (v4 - v4 / (2 : Int32) * (2 : Int32)) = (1 : Int32) then (f_M_work_200 fu k6 k18 (v0) (v1) (v2) (q5) (v3) ((1 : Int32)) w) else (f_M_work_200 fu k6 k18 (v0) (v1) (v2) (q5) (v3) ((0 : Int32)) w)) else (if v4 = 0 then (f_M_work_200 fu k6 k18 (v0) (v1) (v2) (q5) (v3) ((1 : Int32)) w) else (f_M_work_200 fu k6 k18 (v0) (v1) (v2) (q5) (v3) ((0 : Int32)) w))))))))) else ((hp_gr w v0 7 8).bind fun q10 => ((hp_ri w q10 v5).bind fun x11 => ((hp_is w v0 7).bind fun _ => ((f_M_isOn fu v0 x11 v1 w).bind fun r12 => (if r12.1 = 0 then (f_M_work_78 fu k6 k18 (f_M_work_41 fu k6 k18 n) (v0) (v1) (v2) (v3) (v5) (v4) ((0 : Int32)) r12.2) else (f_M_work_78 fu k6 k18 (f_M_work_41 fu k6 k18 n) (v0) (v1) (v2) (v3) (v5) (v4) ((1 : Int32)) r12.2)))))))))
def f_M_work_18 (fu : Nat) (k6 : Nat → Int32 → List va_E → Option (List va_E)) : Nat → Nat → Int32 → Int32 → List va_E → Option (List va_E)
  | 0, _, _, _, _ => none
  | n + 1, v0, v1, v2, w => ((hp_gi w v0 7 4).bind fun x1 => (if x1 ≤ v2 then ((hp_gr w v0 7 14).bind fun q2 => ((hp_gr w v0 7 13).bind fun q3 => ((hp_gi w v0 7 9).bind fun x4 => ((hp_rz w q3 x4).bind fun x5 => ((hp_wz w q2 v1 x5).bind fun w6 => (k6 (v0) ((v1 + (1 : Int32))) w6)))))) else ((hp_gr w v0 7 12).bind fun q7 => ((hp_ri w q7 v2).bind fun x8 => (f_M_work_41 fu k6 (f_M_work_18 fu k6 n) fu (v0) (v1) (v2) (x8) ((0 : Int32)) (((4 : Int32) * x8)) w)))))
def f_M_work_6 (fu : Nat) : Nat → Nat → Int32 → List va_E → Option (List va_E)
  | 0, _, _, _ => none
  | n + 1, v0, v1, w => ((hp_gi w v0 7 1).bind fun x1 => (if ((1 : Int32) <<< (x1 &&& 31)) ≤ v1 then (some w) else (f_M_work_18 fu (f_M_work_6 fu n) fu (v0) (v1) ((0 : Int32)) w)))
def f_M_work (fu : Nat) (v0 : Nat) (w : List va_E) : Option (List va_E) := ((hp_is w v0 7).bind fun _ => ((f_M_sort fu v0 w).bind fun r1 => (f_M_work_6 fu fu (v0) ((0 : Int32)) r1)))
section
variable {p : Program} {l : Launch} {e : Env} {s : State} {m : MethodId} {args : Array Value} {below : List Frame} {meth : Method} {c : Code} {D : va_G} {ca : Nat → Nat} {A : Nat → Prop} {ad : Nat → Nat}
set_option maxRecDepth 100000 in
set_option maxHeartbeats 4000000 in
theorem v_M_work_200 (K : av_K p s m args meth c D cl8 ca A b_M_work 6 R_M WS) (G : av_G NS tabON A s s.heap) (hr : meth.sig.returnType = none) (fu : Nat) {r : List va_E} (k6 : Nat → Int32 → List va_E → Option (List va_E)) (k18 : Nat → Int32 → Int32 → List va_E → Option (List va_E)) (hk6 : ∀ (v0 : Nat) (v1 : Int32) (w : List va_E), k6 v0 v1 w = some r → av_VV p l e rm_M_work s m args below meth c D cl8 A ad ca 6 r 6 [some (.ref v0), some (.int v1), none, none, none, none] [] w) (hk18 : ∀ (v0 : Nat) (v1 : Int32) (v2 : Int32) (w : List va_E), k18 v0 v1 v2 w = some r → av_VV p l e rm_M_work s m args below meth c D cl8 A ad ca 6 r 18 [some (.ref v0), some (.int v1), some (.int v2), none, none, none] [] w) (v0 : Nat) (v1 : Int32) (v2 : Int32) (s0 : Nat) (s1 : Int32) (s2 : Int32) (w : List va_E) (h : f_M_work_200 fu k6 k18 v0 v1 v2 s0 s1 s2 w = some r) : av_VV p l e rm_M_work s m args below meth c D cl8 A ad ca 6 r 200 [some (.ref v0), some (.int v1), some (.int v2), none, none, none] [.int s2, .int s1, .ref s0] w := by
  unfold f_M_work_200 at h
  obtain ⟨w1, ew1, h⟩ := hp_bd h
  refine hv_wz K d_M_work_200 ew1 ?_
  refine av_iinc (v := (v2 + (1 : Int32))) (L' := [some (.ref v0), some (.int v1), some (.int (v2 + (1 : Int32))), none, none, none]) K d_M_work_201 rfl (congrArg (fun z => v2 + z) (show Int32.ofInt 1 = (1 : Int32) by decide)) (Nat.le_of_ble_eq_true rfl) rfl ?_
  refine av_goto (tgt := 18) K d_M_work_204 rfl ?_
  exact hk18 (v0) (v1) ((v2 + (1 : Int32))) _ h
set_option maxRecDepth 100000 in
set_option maxHeartbeats 4000000 in
theorem v_M_work_78 (K : av_K p s m args meth c D cl8 ca A b_M_work 6 R_M WS) (G : av_G NS tabON A s s.heap) (hr : meth.sig.returnType = none) (fu : Nat) {r : List va_E} (k6 : Nat → Int32 → List va_E → Option (List va_E)) (k18 : Nat → Int32 → Int32 → List va_E → Option (List va_E)) (k41 : Nat → Int32 → Int32 → Int32 → Int32 → Int32 → List va_E → Option (List va_E)) (hk6 : ∀ (v0 : Nat) (v1 : Int32) (w : List va_E), k6 v0 v1 w = some r → av_VV p l e rm_M_work s m args below meth c D cl8 A ad ca 6 r 6 [some (.ref v0), some (.int v1), none, none, none, none] [] w) (hk18 : ∀ (v0 : Nat) (v1 : Int32) (v2 : Int32) (w : List va_E), k18 v0 v1 v2 w = some r → av_VV p l e rm_M_work s m args below meth c D cl8 A ad ca 6 r 18 [some (.ref v0), some (.int v1), some (.int v2), none, none, none] [] w) (hk41 : ∀ (v0 : Nat) (v1 : Int32) (v2 : Int32) (v3 : Int32) (v4 : Int32) (v5 : Int32) (w : List va_E), k41 v0 v1 v2 v3 v4 v5 w = some r → av_VV p l e rm_M_work s m args below meth c D cl8 A ad ca 6 r 41 [some (.ref v0), some (.int v1), some (.int v2), some (.int v3), some (.int v4), some (.int v5)] [] w) (v0 : Nat) (v1 : Int32) (v2 : Int32) (v3 : Int32) (v5 : Int32) (s0 : Int32) (s1 : Int32) (w : List va_E) (h : f_M_work_78 fu k6 k18 k41 v0 v1 v2 v3 v5 s0 s1 w = some r) : av_VV p l e rm_M_work s m args below meth c D cl8 A ad ca 6 r 78 [some (.ref v0), some (.int v1), some (.int v2), some (.int v3), none, some (.int v5)] [.int s1, .int s0] w := by
  unfold f_M_work_78 at h
  refine av_iadd K d_M_work_78 ?_
  refine av_istore (L' := [some (.ref v0), some (.int v1), some (.int v2), some (.int v3), some (.int (s0 + s1)), some (.int v5)]) K d_M_work_79 (Nat.le_of_ble_eq_true rfl) rfl ?_
  refine av_iinc (v := (v5 + (1 : Int32))) (L' := [some (.ref v0), some (.int v1), some (.int v2), some (.int v3), some (.int (s0 + s1)), some (.int (v5 + (1 : Int32)))]) K d_M_work_81 rfl (congrArg (fun z => v5 + z) (show Int32.ofInt 1 = (1 : Int32) by decide)) (Nat.le_of_ble_eq_true rfl) rfl ?_
  refine av_goto (tgt := 41) K d_M_work_84 rfl ?_
  exact hk41 (v0) (v1) (v2) (v3) ((s0 + s1)) ((v5 + (1 : Int32))) _ h
set_option maxRecDepth 100000 in
set_option maxHeartbeats 4000000 in
theorem v_M_work_41 (K : av_K p s m args meth c D cl8 ca A b_M_work 6 R_M WS) (G : av_G NS tabON A s s.heap) (hr : meth.sig.returnType = none) (fu : Nat) {r : List va_E} (k6 : Nat → Int32 → List va_E → Option (List va_E)) (k18 : Nat → Int32 → Int32 → List va_E → Option (List va_E)) (hk6 : ∀ (v0 : Nat) (v1 : Int32) (w : List va_E), k6 v0 v1 w = some r → av_VV p l e rm_M_work s m args below meth c D cl8 A ad ca 6 r 6 [some (.ref v0), some (.int v1), none, none, none, none] [] w) (hk18 : ∀ (v0 : Nat) (v1 : Int32) (v2 : Int32) (w : List va_E), k18 v0 v1 v2 w = some r → av_VV p l e rm_M_work s m args below meth c D cl8 A ad ca 6 r 18 [some (.ref v0), some (.int v1), some (.int v2), none, none, none] [] w) : ∀ (n : Nat) (v0 : Nat) (v1 : Int32) (v2 : Int32) (v3 : Int32) (v4 : Int32) (v5 : Int32) (w : List va_E), f_M_work_41 fu k6 k18 n v0 v1 v2 v3 v4 v5 w = some r → av_VV p l e rm_M_work s m args below meth c D cl8 A ad ca 6 r 41 [some (.ref v0), some (.int v1), some (.int v2), some (.int v3), some (.int v4), some (.int v5)] [] w := by
  intro n
  induction n with
  | zero => intro _ _ _ _ _ _ _ h; cases h
  | succ n ih =>
    intro v0 v1 v2 v3 v4 v5 w h
    unfold f_M_work_41 at h
    refine av_iload K d_M_work_41 rfl ?_
    refine av_iconst (v := (4 : Int32)) K d_M_work_43 (by decide) ?_
    refine av_iload_n K d_M_work_44 rfl rfl ?_
    refine av_imul K d_M_work_45 ?_
    refine av_aload_n K d_M_work_46 rfl rfl ?_
    obtain ⟨q1, eq1, h⟩ := hp_bd h
    refine hv_gr K fl_M_22 d_M_work_47 eq1 ?_
    refine av_iload_n K d_M_work_50 rfl rfl ?_
    obtain ⟨x2, ex2, h⟩ := hp_bd h
    refine hv_ri K d_M_work_51 ex2 ?_
    refine av_iadd K d_M_work_52 ?_
    refine av_icmp_ge (tgt := 87) K d_M_work_53 rfl (fun hc => ?_) (fun hc => ?_)
    · rw [if_pos hc] at h
      refine av_aload_n K d_M_work_87 rfl rfl ?_
      obtain ⟨q3, eq3, h⟩ := hp_bd h
      refine hv_gr K fl_M_16 d_M_work_88 eq3 ?_
      refine av_iload_n K d_M_work_91 rfl rfl ?_
      obtain ⟨x4, ex4, h⟩ := hp_bd h
      refine hv_ri K d_M_work_92 ex4 ?_
      refine av_istore (L' := [some (.ref v0), some (.int v1), some (.int v2), some (.int v3), some (.int v4), some (.int x4)]) K d_M_work_93 (Nat.le_of_ble_eq_true rfl) rfl ?_
      refine av_aload_n K d_M_work_95 rfl rfl ?_
      obtain ⟨q5, eq5, h⟩ := hp_bd h
      refine hv_gr K fl_M_42 d_M_work_96 eq5 ?_
      refine av_iload_n K d_M_work_99 rfl rfl ?_
      refine av_iload K d_M_work_100 rfl ?_
      refine av_if_ne (tgt := 124) K d_M_work_102 rfl (fun hc => ?_) (fun hc => ?_)
      · rw [if_neg hc] at h
        refine av_iload K d_M_work_124 rfl ?_
        refine av_iconst (v := (1 : Int32)) K d_M_work_126 (by decide) ?_
        refine av_icmp_ne (tgt := 143) K d_M_work_127 rfl (fun hc => ?_) (fun hc => ?_)
        · rw [if_neg hc] at h
          refine av_iload K d_M_work_143 rfl ?_
          refine av_iconst (v := (2 : Int32)) K d_M_work_145 (by decide) ?_
          refine av_icmp_ne (tgt := 168) K d_M_work_146 rfl (fun hc => ?_) (fun hc => ?_)
          · rw [if_neg hc] at h
            refine av_iload K d_M_work_168 rfl ?_
            refine av_iconst (v := (3 : Int32)) K d_M_work_170 (by decide) ?_
            refine av_icmp_ne (tgt := 190) K d_M_work_171 rfl (fun hc => ?_) (fun hc => ?_)
            · rw [if_neg hc] at h
              refine av_iload K d_M_work_190 rfl ?_
              refine av_if_ne (tgt := 199) K d_M_work_192 rfl (fun hc => ?_) (fun hc => ?_)
              · rw [if_neg hc] at h
                refine av_iconst (v := (0 : Int32)) K d_M_work_199 (by decide) ?_
                refine hv_fg (L' := [some (.ref v0), some (.int v1), some (.int v2), none, none, none]) [3, 4, 5] rfl ?_
                exact v_M_work_200 K G hr fu k6 k18 hk6 hk18 (v0) (v1) (v2) (q5) (v3) ((0 : Int32)) _ h
              · rw [if_pos hc] at h
                refine av_iconst (v := (1 : Int32)) K d_M_work_195 (by decide) ?_
                refine av_goto (tgt := 200) K d_M_work_196 rfl ?_
                refine hv_fg (L' := [some (.ref v0), some (.int v1), some (.int v2), none, none, none]) [3, 4, 5] rfl ?_
                exact v_M_work_200 K G hr fu k6 k18 hk6 hk18 (v0) (v1) (v2) (q5) (v3) ((1 : Int32)) _ h
            · rw [if_pos hc] at h
              refine av_iload K d_M_work_174 rfl ?_
              refine av_iconst (v := (2 : Int32)) K d_M_work_176 (by decide) ?_
              refine av_irem K d_M_work_177 (by decide) ?_
              refine av_iconst (v := (1 : Int32)) K d_M_work_178 (by decide) ?_
              refine av_icmp_ne (tgt := 186) K d_M_work_179 rfl (fun hc => ?_) (fun hc => ?_)
              · rw [if_neg hc] at h
                refine av_iconst (v := (0 : Int32)) K d_M_work_186 (by decide) ?_
                refine av_goto (tgt := 200) K d_M_work_187 rfl ?_
                refine hv_fg (L' := [some (.ref v0), some (.int v1), some (.int v2), none, none, none]) [3, 4, 5] rfl ?_
                exact v_M_work_200 K G hr fu k6 k18 hk6 hk18 (v0) (v1) (v2) (q5) (v3) ((0 : Int32)) _ h
              · rw [if_pos hc] at h
                refine av_iconst (v := (1 : Int32)) K d_M_work_182 (by decide) ?_
                refine av_goto (tgt := 200) K d_M_work_183 rfl ?_
                refine hv_fg (L' := [some (.ref v0), some (.int v1), some (.int v2), none, none, none]) [3, 4, 5] rfl ?_
                exact v_M_work_200 K G hr fu k6 k18 hk6 hk18 (v0) (v1) (v2) (q5) (v3) ((1 : Int32)) _ h
          · rw [if_pos hc] at h
            refine av_iload K d_M_work_149 rfl ?_
            refine av_aload_n K d_M_work_151 rfl rfl ?_
            obtain ⟨q6, eq6, h⟩ := hp_bd h
            refine hv_gr K fl_M_19 d_M_work_152 eq6 ?_
            refine av_iload_n K d_M_work_155 rfl rfl ?_
            obtain ⟨x7, ex7, h⟩ := hp_bd h
            refine hv_ri K d_M_work_156 ex7 ?_
            refine av_icmp_lt (tgt := 164) K d_M_work_157 rfl (fun hc => ?_) (fun hc => ?_)
            · rw [if_pos hc] at h
              refine av_iconst (v := (0 : Int32)) K d_M_work_164 (by decide) ?_
              refine av_goto (tgt := 200) K d_M_work_165 rfl ?_
              refine hv_fg (L' := [some (.ref v0), some (.int v1), some (.int v2), none, none, none]) [3, 4, 5] rfl ?_
              exact v_M_work_200 K G hr fu k6 k18 hk6 hk18 (v0) (v1) (v2) (q5) (v3) ((0 : Int32)) _ h
            · rw [if_neg hc] at h
              refine av_iconst (v := (1 : Int32)) K d_M_work_160 (by decide) ?_
              refine av_goto (tgt := 200) K d_M_work_161 rfl ?_
              refine hv_fg (L' := [some (.ref v0), some (.int v1), some (.int v2), none, none, none]) [3, 4, 5] rfl ?_
              exact v_M_work_200 K G hr fu k6 k18 hk6 hk18 (v0) (v1) (v2) (q5) (v3) ((1 : Int32)) _ h
        · rw [if_pos hc] at h
          refine av_iload K d_M_work_130 rfl ?_
          refine av_if_le (tgt := 139) K d_M_work_132 rfl (fun hc => ?_) (fun hc => ?_)
          · rw [if_pos hc] at h
            refine av_iconst (v := (0 : Int32)) K d_M_work_139 (by decide) ?_
            refine av_goto (tgt := 200) K d_M_work_140 rfl ?_
            refine hv_fg (L' := [some (.ref v0), some (.int v1), some (.int v2), none, none, none]) [3, 4, 5] rfl ?_
            exact v_M_work_200 K G hr fu k6 k18 hk6 hk18 (v0) (v1) (v2) (q5) (v3) ((0 : Int32)) _ h
          · rw [if_neg hc] at h
            refine av_iconst (v := (1 : Int32)) K d_M_work_135 (by decide) ?_
            refine av_goto (tgt := 200) K d_M_work_136 rfl ?_
            refine hv_fg (L' := [some (.ref v0), some (.int v1), some (.int v2), none, none, none]) [3, 4, 5] rfl ?_
            exact v_M_work_200 K G hr fu k6 k18 hk6 hk18 (v0) (v1) (v2) (q5) (v3) ((1 : Int32)) _ h
      · rw [if_pos hc] at h
        refine av_iload K d_M_work_105 rfl ?_
        refine av_aload_n K d_M_work_107 rfl rfl ?_
        obtain ⟨q8, eq8, h⟩ := hp_bd h
        refine hv_gr K fl_M_22 d_M_work_108 eq8 ?_
        refine av_iload_n K d_M_work_111 rfl rfl ?_
        obtain ⟨x9, ex9, h⟩ := hp_bd h
        refine hv_ri K d_M_work_112 ex9 ?_
        refine av_icmp_ne (tgt := 120) K d_M_work_113 rfl (fun hc => ?_) (fun hc => ?_)
        · rw [if_neg hc] at h
          refine av_iconst (v := (0 : Int32)) K d_M_work_120 (by decide) ?_
          refine av_goto (tgt := 200) K d_M_work_121 rfl ?_
          refine hv_fg (L' := [some (.ref v0), some (.int v1), some (.int v2), none, none, none]) [3, 4, 5] rfl ?_
          exact v_M_work_200 K G hr fu k6 k18 hk6 hk18 (v0) (v1) (v2) (q5) (v3) ((0 : Int32)) _ h
        · rw [if_pos hc] at h
          refine av_iconst (v := (1 : Int32)) K d_M_work_116 (by decide) ?_
          refine av_goto (tgt := 200) K d_M_work_117 rfl ?_
          refine hv_fg (L' := [some (.ref v0), some (.int v1), some (.int v2), none, none, none]) [3, 4, 5] rfl ?_
          exact v_M_work_200 K G hr fu k6 k18 hk6 hk18 (v0) (v1) (v2) (q5) (v3) ((1 : Int32)) _ h
    · rw [if_neg hc] at h
      refine av_iload K d_M_work_56 rfl ?_
      refine av_aload_n K d_M_work_58 rfl rfl ?_
      refine av_aload_n K d_M_work_59 rfl rfl ?_
      obtain ⟨q10, eq10, h⟩ := hp_bd h
      refine hv_gr K fl_M_25 d_M_work_60 eq10 ?_
      refine av_iload K d_M_work_63 rfl ?_
      obtain ⟨x11, ex11, h⟩ := hp_bd h
      refine hv_ri K d_M_work_65 ex11 ?_
      refine av_iload_n K d_M_work_66 rfl rfl ?_
      obtain ⟨_, eo67, h⟩ := hp_bd h
      obtain ⟨r12, er12, h⟩ := hp_bd h
      obtain ⟨fs67, ho67⟩ := hp_is_of eo67
      refine av_cVi K G (c_M_isOn (tab := tabON) er12) (cwV 2 K.2.2.2.2.1 (gV ml_M_84 im_M_isOn se_M_isOn in_M co_M_isOn) rfl rfl rfl cd_M_isOn ⟨Nat.le_of_ble_eq_true rfl, Nat.le_of_ble_eq_true rfl⟩) rfl ho67 rfl rfl (Nat.le_of_ble_eq_true rfl) d_M_work_67 ⟨Nat.zero_le _, Nat.zero_le _⟩ (fun a9 u9 h9 => ?_)
      obtain ⟨rfl, rfl⟩ : a9 = r12.1 ∧ u9 = r12.2 := ⟨congrArg Prod.fst h9, congrArg Prod.snd h9⟩
      refine av_if_eq (tgt := 77) K d_M_work_70 rfl (fun hc => ?_) (fun hc => ?_)
      · rw [if_pos hc] at h
        refine av_iconst (v := (0 : Int32)) K d_M_work_77 (by decide) ?_
        refine hv_fg (L' := [some (.ref v0), some (.int v1), some (.int v2), some (.int v3), none, some (.int v5)]) [4] rfl ?_
        exact v_M_work_78 K G hr fu k6 k18 (f_M_work_41 fu k6 k18 n) hk6 hk18 ih (v0) (v1) (v2) (v3) (v5) (v4) ((0 : Int32)) _ h
      · rw [if_neg hc] at h
        refine av_iconst (v := (1 : Int32)) K d_M_work_73 (by decide) ?_
        refine av_goto (tgt := 78) K d_M_work_74 rfl ?_
        refine hv_fg (L' := [some (.ref v0), some (.int v1), some (.int v2), some (.int v3), none, some (.int v5)]) [4] rfl ?_
        exact v_M_work_78 K G hr fu k6 k18 (f_M_work_41 fu k6 k18 n) hk6 hk18 ih (v0) (v1) (v2) (v3) (v5) (v4) ((1 : Int32)) _ h
set_option maxRecDepth 100000 in
set_option maxHeartbeats 4000000 in
theorem v_M_work_18 (K : av_K p s m args meth c D cl8 ca A b_M_work 6 R_M WS) (G : av_G NS tabON A s s.heap) (hr : meth.sig.returnType = none) (fu : Nat) {r : List va_E} (k6 : Nat → Int32 → List va_E → Option (List va_E)) (hk6 : ∀ (v0 : Nat) (v1 : Int32) (w : List va_E), k6 v0 v1 w = some r → av_VV p l e rm_M_work s m args below meth c D cl8 A ad ca 6 r 6 [some (.ref v0), some (.int v1), none, none, none, none] [] w) : ∀ (n : Nat) (v0 : Nat) (v1 : Int32) (v2 : Int32) (w : List va_E), f_M_work_18 fu k6 n v0 v1 v2 w = some r → av_VV p l e rm_M_work s m args below meth c D cl8 A ad ca 6 r 18 [some (.ref v0), some (.int v1), some (.int v2), none, none, none] [] w := by
  intro n
  induction n with
  | zero => intro _ _ _ _ h; cases h
  | succ n ih =>
    intro v0 v1 v2 w h
    unfold f_M_work_18 at h
    refine av_iload_n K d_M_work_18 rfl rfl ?_
    refine av_aload_n K d_M_work_19 rfl rfl ?_
    obtain ⟨x1, ex1, h⟩ := hp_bd h
    refine hv_gi K fl_M_64 d_M_work_20 ex1 ?_
    refine av_icmp_ge (tgt := 207) K d_M_work_23 rfl (fun hc => ?_) (fun hc => ?_)
    · rw [if_pos hc] at h
      refine av_aload_n K d_M_work_207 rfl rfl ?_
      obtain ⟨q2, eq2, h⟩ := hp_bd h
      refine hv_gr K fl_M_45 d_M_work_208 eq2 ?_
      refine av_iload_n K d_M_work_211 rfl rfl ?_
      refine av_aload_n K d_M_work_212 rfl rfl ?_
      obtain ⟨q3, eq3, h⟩ := hp_bd h
      refine hv_gr K fl_M_42 d_M_work_213 eq3 ?_
      refine av_aload_n K d_M_work_216 rfl rfl ?_
      obtain ⟨x4, ex4, h⟩ := hp_bd h
      refine hv_gi K fl_M_28 d_M_work_217 ex4 ?_
      obtain ⟨x5, ex5, h⟩ := hp_bd h
      refine hv_rz K d_M_work_220 ex5 ?_
      obtain ⟨w6, ew6, h⟩ := hp_bd h
      refine hv_wz K d_M_work_221 ew6 ?_
      refine av_iinc (v := (v1 + (1 : Int32))) (L' := [some (.ref v0), some (.int (v1 + (1 : Int32))), some (.int v2), none, none, none]) K d_M_work_222 rfl (congrArg (fun z => v1 + z) (show Int32.ofInt 1 = (1 : Int32) by decide)) (Nat.le_of_ble_eq_true rfl) rfl ?_
      refine av_goto (tgt := 6) K d_M_work_225 rfl ?_
      refine hv_fg (L' := [some (.ref v0), some (.int (v1 + (1 : Int32))), none, none, none, none]) [2] rfl ?_
      exact hk6 (v0) ((v1 + (1 : Int32))) _ h
    · rw [if_neg hc] at h
      refine av_aload_n K d_M_work_26 rfl rfl ?_
      obtain ⟨q7, eq7, h⟩ := hp_bd h
      refine hv_gr K fl_M_39 d_M_work_27 eq7 ?_
      refine av_iload_n K d_M_work_30 rfl rfl ?_
      obtain ⟨x8, ex8, h⟩ := hp_bd h
      refine hv_ri K d_M_work_31 ex8 ?_
      refine av_istore_n (L' := [some (.ref v0), some (.int v1), some (.int v2), some (.int x8), none, none]) K d_M_work_32 rfl (Nat.le_of_ble_eq_true rfl) rfl ?_
      refine av_iconst (v := (0 : Int32)) K d_M_work_33 (by decide) ?_
      refine av_istore (L' := [some (.ref v0), some (.int v1), some (.int v2), some (.int x8), some (.int (0 : Int32)), none]) K d_M_work_34 (Nat.le_of_ble_eq_true rfl) rfl ?_
      refine av_iconst (v := (4 : Int32)) K d_M_work_36 (by decide) ?_
      refine av_iload_n K d_M_work_37 rfl rfl ?_
      refine av_imul K d_M_work_38 ?_
      refine av_istore (L' := [some (.ref v0), some (.int v1), some (.int v2), some (.int x8), some (.int (0 : Int32)), some (.int ((4 : Int32) * x8))]) K d_M_work_39 (Nat.le_of_ble_eq_true rfl) rfl ?_
      exact v_M_work_41 K G hr fu k6 (f_M_work_18 fu k6 n) hk6 ih fu (v0) (v1) (v2) (x8) ((0 : Int32)) (((4 : Int32) * x8)) _ h
set_option maxRecDepth 100000 in
set_option maxHeartbeats 4000000 in
theorem v_M_work_6 (K : av_K p s m args meth c D cl8 ca A b_M_work 6 R_M WS) (G : av_G NS tabON A s s.heap) (hr : meth.sig.returnType = none) (fu : Nat) {r : List va_E} : ∀ (n : Nat) (v0 : Nat) (v1 : Int32) (w : List va_E), f_M_work_6 fu n v0 v1 w = some r → av_VV p l e rm_M_work s m args below meth c D cl8 A ad ca 6 r 6 [some (.ref v0), some (.int v1), none, none, none, none] [] w := by
  intro n
  induction n with
  | zero => intro _ _ _ h; cases h
  | succ n ih =>
    intro v0 v1 w h
    unfold f_M_work_6 at h
    refine av_iload_n K d_M_work_6 rfl rfl ?_
    refine av_iconst (v := (1 : Int32)) K d_M_work_7 (by decide) ?_
    refine av_aload_n K d_M_work_8 rfl rfl ?_
    obtain ⟨x1, ex1, h⟩ := hp_bd h
    refine hv_gi K fl_M_61 d_M_work_9 ex1 ?_
    refine av_ishl K d_M_work_12 ?_
    refine av_icmp_ge (tgt := 228) K d_M_work_13 rfl (fun hc => ?_) (fun hc => ?_)
    · rw [if_pos hc] at h
      obtain rfl := Option.some.inj h
      exact av_return K hr d_M_work_228 rfl
    · rw [if_neg hc] at h
      refine av_iconst (v := (0 : Int32)) K d_M_work_16 (by decide) ?_
      refine av_istore_n (L' := [some (.ref v0), some (.int v1), some (.int (0 : Int32)), none, none, none]) K d_M_work_17 rfl (Nat.le_of_ble_eq_true rfl) rfl ?_
      exact v_M_work_18 K G hr fu (f_M_work_6 fu n) ih fu (v0) (v1) ((0 : Int32)) _ h
set_option maxRecDepth 100000 in
set_option maxHeartbeats 4000000 in
theorem v_M_work (K : av_K p s m args meth c D cl8 ca A b_M_work 6 R_M WS) (G : av_G NS tabON A s s.heap) (hr : meth.sig.returnType = none) (fu : Nat) {r : List va_E} (v0 : Nat) (w : List va_E) (h : f_M_work fu v0 w = some r) : av_VV p l e rm_M_work s m args below meth c D cl8 A ad ca 6 r 0 [some (.ref v0), none, none, none, none, none] [] w := by
  unfold f_M_work at h
  refine av_aload_n K d_M_work_0 rfl rfl ?_
  obtain ⟨_, eo1, h⟩ := hp_bd h
  obtain ⟨r1, er1, h⟩ := hp_bd h
  obtain ⟨fs1, ho1⟩ := hp_is_of eo1
  refine av_cVv K G (c_M_sort (tab := tabON) er1) (cwV 0 K.2.2.2.2.1 (gV ml_M_81 im_M_sort se_M_sort in_M co_M_sort) rfl rfl rfl cd_M_sort ⟨Nat.le_of_ble_eq_true rfl, Nat.le_of_ble_eq_true rfl⟩) rfl ho1 rfl rfl (Nat.le_of_ble_eq_true rfl) d_M_work_1 ⟨Nat.zero_le _, Nat.zero_le _⟩ (fun u9 h9 => ?_)
  subst h9
  refine av_iconst (v := (0 : Int32)) K d_M_work_4 (by decide) ?_
  refine av_istore_n (L' := [some (.ref v0), some (.int (0 : Int32)), none, none, none, none]) K d_M_work_5 rfl (Nat.le_of_ble_eq_true rfl) rfl ?_
  exact v_M_work_6 K G hr fu fu (v0) ((0 : Int32)) _ h
end
set_option maxRecDepth 100000 in
theorem c_M_work {l : Launch} {D : va_G} {ca : Nat → Nat} {tab : Nat → Int64} {fu : Nat} {v0 : Nat} {w : List va_E} {r : List va_E} (h : f_M_work fu v0 w = some r) : av_Cv l D cl8 ca NS tabON y_M_work w_M_work rm_M_work [.ref v0] w (fun u => u = r) :=
  av_inV (cc := b_M_work) (nL := 6) (by decide +kernel) rfl (Nat.le_of_ble_eq_true rfl) (fun p e s m args below meth c A ad K G hr => v_M_work K G hr fu v0 w h)

-- FaultTreeDeskModel.lacks(I)Z
theorem d_M_lacks_0 : decode b_M_lacks 0 = .ok (.aload_n 0, 1) := by decide +kernel
theorem d_M_lacks_1 : decode b_M_lacks 1 = .ok (.aload_n 0, 1) := by decide +kernel
theorem d_M_lacks_2 : decode b_M_lacks 2 = .ok (.getfield 28, 3) := by decide +kernel
theorem d_M_lacks_5 : decode b_M_lacks 5 = .ok (.ifCond .ge 7, 3) := by decide +kernel
theorem d_M_lacks_8 : decode b_M_lacks 8 = .ok (.iload_n 1, 1) := by decide +kernel
theorem d_M_lacks_9 : decode b_M_lacks 9 = .ok (.goto 4, 3) := by decide +kernel
theorem d_M_lacks_12 : decode b_M_lacks 12 = .ok (.iconst 0, 1) := by decide +kernel
theorem d_M_lacks_13 : decode b_M_lacks 13 = .ok (.putfield 58, 3) := by decide +kernel
theorem d_M_lacks_16 : decode b_M_lacks 16 = .ok (.aload_n 0, 1) := by decide +kernel
theorem d_M_lacks_17 : decode b_M_lacks 17 = .ok (.getfield 58, 3) := by decide +kernel
theorem d_M_lacks_20 : decode b_M_lacks 20 = .ok (.ifCond .ne 7, 3) := by decide +kernel
theorem d_M_lacks_23 : decode b_M_lacks 23 = .ok (.aload_n 0, 1) := by decide +kernel
theorem d_M_lacks_24 : decode b_M_lacks 24 = .ok (.invokevirtual 87, 3) := by decide +kernel
theorem d_M_lacks_27 : decode b_M_lacks 27 = .ok (.aload_n 0, 1) := by decide +kernel
theorem d_M_lacks_28 : decode b_M_lacks 28 = .ok (.getfield 58, 3) := by decide +kernel
theorem d_M_lacks_31 : decode b_M_lacks 31 = .ok (.ifCond .le 7, 3) := by decide +kernel
theorem d_M_lacks_34 : decode b_M_lacks 34 = .ok (.iconst 1, 1) := by decide +kernel
theorem d_M_lacks_35 : decode b_M_lacks 35 = .ok (.goto 4, 3) := by decide +kernel
theorem d_M_lacks_38 : decode b_M_lacks 38 = .ok (.iconst 0, 1) := by decide +kernel
theorem d_M_lacks_39 : decode b_M_lacks 39 = .ok (.ireturn, 1) := by decide +kernel
def rm_M_lacks : Room := { frames := 3, cells := 0, slots := 0, locals := 72 }
def f_M_lacks_39 (fu : Nat) (s0 : Int32) (w : List va_E) : Option (Int32 × List va_E) := (if s0 = 0 ∨ s0 = 1 then some (s0, w) else none)
def f_M_lacks_27 (fu : Nat) (v0 : Nat) (w : List va_E) : Option (Int32 × List va_E) := ((hp_gi w v0 7 0).bind fun x1 => (if x1 ≤ 0 then (f_M_lacks_39 fu ((0 : Int32)) w) else (f_M_lacks_39 fu ((1 : Int32)) w)))
def f_M_lacks_13 (fu : Nat) (v0 : Nat) (s0 : Nat) (s1 : Int32) (w : List va_E) : Option (Int32 × List va_E) := ((hp_pi w s0 7 0 s1).bind fun w1 => ((hp_gi w1 v0 7 0).bind fun x2 => (if x2 = 0 then ((hp_is w1 v0 7).bind fun _ => ((f_M_work fu v0 w1).bind fun r3 => (f_M_lacks_27 fu (v0) r3))) else (f_M_lacks_27 fu (v0) w1))))
def f_M_lacks (fu : Nat) (v0 : Nat) (v1 : Int32) (w : List va_E) : Option (Int32 × List va_E) := ((hp_gi w v0 7 9).bind fun x1 => (if 0 ≤ x1 then (f_M_lacks_13 fu (v0) (v0) ((0 : Int32)) w) else (f_M_lacks_13 fu (v0) (v0) (v1) w)))
section
variable {p : Program} {l : Launch} {e : Env} {s : State} {m : MethodId} {args : Array Value} {below : List Frame} {meth : Method} {c : Code} {D : va_G} {ca : Nat → Nat} {A : Nat → Prop} {ad : Nat → Nat}
set_option maxRecDepth 100000 in
set_option maxHeartbeats 4000000 in
theorem v_M_lacks_39 (K : av_K p s m args meth c D cl8 ca A b_M_lacks 2 R_M WS) (G : av_G NS tabON A s s.heap) (hr : meth.sig.returnType = some .boolean) (fu : Nat) {r : Int32 × List va_E} (s0 : Int32) (w : List va_E) (h : f_M_lacks_39 fu s0 w = some r) : av_VI p l e rm_M_lacks s m args below meth c D cl8 A ad ca 2 r 39 [none, none] [.int s0] w := by
  unfold f_M_lacks_39 at h
  obtain ⟨hz, h⟩ := hp_if h
  obtain rfl := Option.some.inj h
  exact av_zreturn K hr (hp_nz hz) d_M_lacks_39 rfl
set_option maxRecDepth 100000 in
set_option maxHeartbeats 4000000 in
theorem v_M_lacks_27 (K : av_K p s m args meth c D cl8 ca A b_M_lacks 2 R_M WS) (G : av_G NS tabON A s s.heap) (hr : meth.sig.returnType = some .boolean) (fu : Nat) {r : Int32 × List va_E} (v0 : Nat) (w : List va_E) (h : f_M_lacks_27 fu v0 w = some r) : av_VI p l e rm_M_lacks s m args below meth c D cl8 A ad ca 2 r 27 [some (.ref v0), none] [] w := by
  unfold f_M_lacks_27 at h
  refine av_aload_n K d_M_lacks_27 rfl rfl ?_
  obtain ⟨x1, ex1, h⟩ := hp_bd h
  refine hv_gi K fl_M_58 d_M_lacks_28 ex1 ?_
  refine av_if_le (tgt := 38) K d_M_lacks_31 rfl (fun hc => ?_) (fun hc => ?_)
  · rw [if_pos hc] at h
    refine av_iconst (v := (0 : Int32)) K d_M_lacks_38 (by decide) ?_
    refine hv_fg (L' := [none, none]) [0] rfl ?_
    exact v_M_lacks_39 K G hr fu ((0 : Int32)) _ h
  · rw [if_neg hc] at h
    refine av_iconst (v := (1 : Int32)) K d_M_lacks_34 (by decide) ?_
    refine av_goto (tgt := 39) K d_M_lacks_35 rfl ?_
    refine hv_fg (L' := [none, none]) [0] rfl ?_
    exact v_M_lacks_39 K G hr fu ((1 : Int32)) _ h
set_option maxRecDepth 100000 in
set_option maxHeartbeats 4000000 in
theorem v_M_lacks_13 (K : av_K p s m args meth c D cl8 ca A b_M_lacks 2 R_M WS) (G : av_G NS tabON A s s.heap) (hr : meth.sig.returnType = some .boolean) (fu : Nat) {r : Int32 × List va_E} (v0 : Nat) (s0 : Nat) (s1 : Int32) (w : List va_E) (h : f_M_lacks_13 fu v0 s0 s1 w = some r) : av_VI p l e rm_M_lacks s m args below meth c D cl8 A ad ca 2 r 13 [some (.ref v0), none] [.int s1, .ref s0] w := by
  unfold f_M_lacks_13 at h
  obtain ⟨w1, ew1, h⟩ := hp_bd h
  refine hv_pi K fp_M_58 d_M_lacks_13 ew1 ?_
  refine av_aload_n K d_M_lacks_16 rfl rfl ?_
  obtain ⟨x2, ex2, h⟩ := hp_bd h
  refine hv_gi K fl_M_58 d_M_lacks_17 ex2 ?_
  refine av_if_ne (tgt := 27) K d_M_lacks_20 rfl (fun hc => ?_) (fun hc => ?_)
  · rw [if_neg hc] at h
    exact v_M_lacks_27 K G hr fu (v0) _ h
  · rw [if_pos hc] at h
    refine av_aload_n K d_M_lacks_23 rfl rfl ?_
    obtain ⟨_, eo24, h⟩ := hp_bd h
    obtain ⟨r3, er3, h⟩ := hp_bd h
    obtain ⟨fs24, ho24⟩ := hp_is_of eo24
    refine av_cVv K G (c_M_work (tab := tabON) er3) (cwV 0 K.2.2.2.2.1 (gV ml_M_87 im_M_work se_M_work in_M co_M_work) rfl rfl rfl cd_M_work ⟨Nat.le_of_ble_eq_true rfl, Nat.le_of_ble_eq_true rfl⟩) rfl ho24 rfl rfl (Nat.le_of_ble_eq_true rfl) d_M_lacks_24 ⟨Nat.zero_le _, Nat.zero_le _⟩ (fun u9 h9 => ?_)
    subst h9
    exact v_M_lacks_27 K G hr fu (v0) _ h
set_option maxRecDepth 100000 in
set_option maxHeartbeats 4000000 in
theorem v_M_lacks (K : av_K p s m args meth c D cl8 ca A b_M_lacks 2 R_M WS) (G : av_G NS tabON A s s.heap) (hr : meth.sig.returnType = some .boolean) (fu : Nat) {r : Int32 × List va_E} (v0 : Nat) (v1 : Int32) (w : List va_E) (h : f_M_lacks fu v0 v1 w = some r) : av_VI p l e rm_M_lacks s m args below meth c D cl8 A ad ca 2 r 0 [some (.ref v0), some (.int v1)] [] w := by
  unfold f_M_lacks at h
  refine av_aload_n K d_M_lacks_0 rfl rfl ?_
  refine av_aload_n K d_M_lacks_1 rfl rfl ?_
  obtain ⟨x1, ex1, h⟩ := hp_bd h
  refine hv_gi K fl_M_28 d_M_lacks_2 ex1 ?_
  refine av_if_ge (tgt := 12) K d_M_lacks_5 rfl (fun hc => ?_) (fun hc => ?_)
  · rw [if_pos hc] at h
    refine av_iconst (v := (0 : Int32)) K d_M_lacks_12 (by decide) ?_
    refine hv_fg (L' := [some (.ref v0), none]) [1] rfl ?_
    exact v_M_lacks_13 K G hr fu (v0) (v0) ((0 : Int32)) _ h
  · rw [if_neg hc] at h
    refine av_iload_n K d_M_lacks_8 rfl rfl ?_
    refine av_goto (tgt := 13) K d_M_lacks_9 rfl ?_
    refine hv_fg (L' := [some (.ref v0), none]) [1] rfl ?_
    exact v_M_lacks_13 K G hr fu (v0) (v0) (v1) _ h
end
set_option maxRecDepth 100000 in
theorem c_M_lacks {l : Launch} {D : va_G} {ca : Nat → Nat} {tab : Nat → Int64} {fu : Nat} {v0 : Nat} {v1 : Int32} {w : List va_E} {r : Int32 × List va_E} (h : f_M_lacks fu v0 v1 w = some r) : av_Ci l D cl8 ca NS tabON y_M_lacks w_M_lacks rm_M_lacks [.ref v0, .int v1] w (fun v u => (v, u) = r) :=
  av_inI (cc := b_M_lacks) (nL := 2) (by decide +kernel) rfl (Nat.le_of_ble_eq_true rfl) (fun p e s m args below meth c A ad K G hr => v_M_lacks K G hr fu v0 v1 w h)

-- FaultTreeDeskModel.value(I)Z
theorem d_M_value_0 : decode b_M_value 0 = .ok (.aload_n 0, 1) := by decide +kernel
theorem d_M_value_1 : decode b_M_value 1 = .ok (.iconst 1, 1) := by decide +kernel
theorem d_M_value_2 : decode b_M_value 2 = .ok (.invokevirtual 90, 3) := by decide +kernel
theorem d_M_value_5 : decode b_M_value 5 = .ok (.ifCond .ne 25, 3) := by decide +kernel
theorem d_M_value_8 : decode b_M_value 8 = .ok (.aload_n 0, 1) := by decide +kernel
theorem d_M_value_9 : decode b_M_value 9 = .ok (.getfield 45, 3) := by decide +kernel
theorem d_M_value_12 : decode b_M_value 12 = .ok (.iload_n 1, 1) := by decide +kernel
theorem d_M_value_13 : decode b_M_value 13 = .ok (.iconst 1, 1) := by decide +kernel
theorem d_M_value_14 : decode b_M_value 14 = .ok (.aload_n 0, 1) := by decide +kernel
theorem d_M_value_15 : decode b_M_value 15 = .ok (.getfield 61, 3) := by decide +kernel
theorem d_M_value_18 : decode b_M_value 18 = .ok (.ishl, 1) := by decide +kernel
theorem d_M_value_19 : decode b_M_value 19 = .ok (.iconst 1, 1) := by decide +kernel
theorem d_M_value_20 : decode b_M_value 20 = .ok (.isub, 1) := by decide +kernel
theorem d_M_value_21 : decode b_M_value 21 = .ok (.iand, 1) := by decide +kernel
theorem d_M_value_22 : decode b_M_value 22 = .ok (.baload, 1) := by decide +kernel
theorem d_M_value_23 : decode b_M_value 23 = .ok (.ifCond .eq 7, 3) := by decide +kernel
theorem d_M_value_26 : decode b_M_value 26 = .ok (.iconst 1, 1) := by decide +kernel
theorem d_M_value_27 : decode b_M_value 27 = .ok (.goto 4, 3) := by decide +kernel
theorem d_M_value_30 : decode b_M_value 30 = .ok (.iconst 0, 1) := by decide +kernel
theorem d_M_value_31 : decode b_M_value 31 = .ok (.ireturn, 1) := by decide +kernel
def rm_M_value : Room := { frames := 4, cells := 0, slots := 0, locals := 93 }
def f_M_value_31 (fu : Nat) (s0 : Int32) (w : List va_E) : Option (Int32 × List va_E) := (if s0 = 0 ∨ s0 = 1 then some (s0, w) else none)
def f_M_value_30 (fu : Nat) (w : List va_E) : Option (Int32 × List va_E) := (f_M_value_31 fu ((0 : Int32)) w)
def f_M_value (fu : Nat) (v0 : Nat) (v1 : Int32) (w : List va_E) : Option (Int32 × List va_E) := ((hp_is w v0 7).bind fun _ => ((f_M_lacks fu v0 (1 : Int32) w).bind fun r1 => (if r1.1 = 0 then ((hp_gr r1.2 v0 7 14).bind fun q2 => ((hp_gi r1.2 v0 7 1).bind fun x3 => ((hp_rz r1.2 q2 (v1 &&& (((1 : Int32) <<< (x3 &&& 31)) - (1 : Int32)))).bind fun x4 => (if x4 = 0 then (f_M_value_30 fu r1.2) else (f_M_value_31 fu ((1 : Int32)) r1.2))))) else (f_M_value_30 fu r1.2))))
section
variable {p : Program} {l : Launch} {e : Env} {s : State} {m : MethodId} {args : Array Value} {below : List Frame} {meth : Method} {c : Code} {D : va_G} {ca : Nat → Nat} {A : Nat → Prop} {ad : Nat → Nat}
set_option maxRecDepth 100000 in
set_option maxHeartbeats 4000000 in
theorem v_M_value_31 (K : av_K p s m args meth c D cl8 ca A b_M_value 2 R_M WS) (G : av_G NS tabON A s s.heap) (hr : meth.sig.returnType = some .boolean) (fu : Nat) {r : Int32 × List va_E} (s0 : Int32) (w : List va_E) (h : f_M_value_31 fu s0 w = some r) : av_VI p l e rm_M_value s m args below meth c D cl8 A ad ca 2 r 31 [none, none] [.int s0] w := by
  unfold f_M_value_31 at h
  obtain ⟨hz, h⟩ := hp_if h
  obtain rfl := Option.some.inj h
  exact av_zreturn K hr (hp_nz hz) d_M_value_31 rfl
set_option maxRecDepth 100000 in
set_option maxHeartbeats 4000000 in
theorem v_M_value_30 (K : av_K p s m args meth c D cl8 ca A b_M_value 2 R_M WS) (G : av_G NS tabON A s s.heap) (hr : meth.sig.returnType = some .boolean) (fu : Nat) {r : Int32 × List va_E} (w : List va_E) (h : f_M_value_30 fu w = some r) : av_VI p l e rm_M_value s m args below meth c D cl8 A ad ca 2 r 30 [none, none] [] w := by
  unfold f_M_value_30 at h
  refine av_iconst (v := (0 : Int32)) K d_M_value_30 (by decide) ?_
  exact v_M_value_31 K G hr fu ((0 : Int32)) _ h
set_option maxRecDepth 100000 in
set_option maxHeartbeats 4000000 in
theorem v_M_value (K : av_K p s m args meth c D cl8 ca A b_M_value 2 R_M WS) (G : av_G NS tabON A s s.heap) (hr : meth.sig.returnType = some .boolean) (fu : Nat) {r : Int32 × List va_E} (v0 : Nat) (v1 : Int32) (w : List va_E) (h : f_M_value fu v0 v1 w = some r) : av_VI p l e rm_M_value s m args below meth c D cl8 A ad ca 2 r 0 [some (.ref v0), some (.int v1)] [] w := by
  unfold f_M_value at h
  refine av_aload_n K d_M_value_0 rfl rfl ?_
  refine av_iconst (v := (1 : Int32)) K d_M_value_1 (by decide) ?_
  obtain ⟨_, eo2, h⟩ := hp_bd h
  obtain ⟨r1, er1, h⟩ := hp_bd h
  obtain ⟨fs2, ho2⟩ := hp_is_of eo2
  refine av_cVi K G (c_M_lacks (tab := tabON) er1) (cwV 1 K.2.2.2.2.1 (gV ml_M_90 im_M_lacks se_M_lacks in_M co_M_lacks) rfl rfl rfl cd_M_lacks ⟨Nat.le_of_ble_eq_true rfl, Nat.le_of_ble_eq_true rfl⟩) rfl ho2 rfl rfl (Nat.le_of_ble_eq_true rfl) d_M_value_2 ⟨Nat.zero_le _, Nat.zero_le _⟩ (fun a9 u9 h9 => ?_)
  obtain ⟨rfl, rfl⟩ : a9 = r1.1 ∧ u9 = r1.2 := ⟨congrArg Prod.fst h9, congrArg Prod.snd h9⟩
  refine av_if_ne (tgt := 30) K d_M_value_5 rfl (fun hc => ?_) (fun hc => ?_)
  · rw [if_neg hc] at h
    refine hv_fg (L' := [none, none]) [0, 1] rfl ?_
    exact v_M_value_30 K G hr fu _ h
  · rw [if_pos hc] at h
    refine av_aload_n K d_M_value_8 rfl rfl ?_
    obtain ⟨q2, eq2, h⟩ := hp_bd h
    refine hv_gr K fl_M_45 d_M_value_9 eq2 ?_
    refine av_iload_n K d_M_value_12 rfl rfl ?_
    refine av_iconst (v := (1 : Int32)) K d_M_value_13 (by decide) ?_
    refine av_aload_n K d_M_value_14 rfl rfl ?_
    obtain ⟨x3, ex3, h⟩ := hp_bd h
    refine hv_gi K fl_M_61 d_M_value_15 ex3 ?_
    refine av_ishl K d_M_value_18 ?_
    refine av_iconst (v := (1 : Int32)) K d_M_value_19 (by decide) ?_
    refine av_isub K d_M_value_20 ?_
    refine av_iand K d_M_value_21 ?_
    obtain ⟨x4, ex4, h⟩ := hp_bd h
    refine hv_rz K d_M_value_22 ex4 ?_
    refine av_if_eq (tgt := 30) K d_M_value_23 rfl (fun hc => ?_) (fun hc => ?_)
    · rw [if_pos hc] at h
      refine hv_fg (L' := [none, none]) [0, 1] rfl ?_
      exact v_M_value_30 K G hr fu _ h
    · rw [if_neg hc] at h
      refine av_iconst (v := (1 : Int32)) K d_M_value_26 (by decide) ?_
      refine av_goto (tgt := 31) K d_M_value_27 rfl ?_
      refine hv_fg (L' := [none, none]) [0, 1] rfl ?_
      exact v_M_value_31 K G hr fu ((1 : Int32)) _ h
end
set_option maxRecDepth 100000 in
theorem c_M_value {l : Launch} {D : va_G} {ca : Nat → Nat} {tab : Nat → Int64} {fu : Nat} {v0 : Nat} {v1 : Int32} {w : List va_E} {r : Int32 × List va_E} (h : f_M_value fu v0 v1 w = some r) : av_Ci l D cl8 ca NS tabON y_M_value w_M_value rm_M_value [.ref v0, .int v1] w (fun v u => (v, u) = r) :=
  av_inI (cc := b_M_value) (nL := 2) (by decide +kernel) rfl (Nat.le_of_ble_eq_true rfl) (fun p e s m args below meth c A ad K G hr => v_M_value K G hr fu v0 v1 w h)

-- FaultTreeDeskModel.sum()J
theorem d_M_sum_0 : decode b_M_sum 0 = .ok (.lconst 0, 1) := by decide +kernel
theorem d_M_sum_1 : decode b_M_sum 1 = .ok (.lstore_n 1, 1) := by decide +kernel
theorem d_M_sum_2 : decode b_M_sum 2 = .ok (.iconst 0, 1) := by decide +kernel
theorem d_M_sum_3 : decode b_M_sum 3 = .ok (.istore_n 3, 1) := by decide +kernel
theorem d_M_sum_4 : decode b_M_sum 4 = .ok (.iload_n 3, 1) := by decide +kernel
theorem d_M_sum_5 : decode b_M_sum 5 = .ok (.iconst 1, 1) := by decide +kernel
theorem d_M_sum_6 : decode b_M_sum 6 = .ok (.aload_n 0, 1) := by decide +kernel
theorem d_M_sum_7 : decode b_M_sum 7 = .ok (.getfield 61, 3) := by decide +kernel
theorem d_M_sum_10 : decode b_M_sum 10 = .ok (.ishl, 1) := by decide +kernel
theorem d_M_sum_11 : decode b_M_sum 11 = .ok (.if_icmp .ge 140, 3) := by decide +kernel
theorem d_M_sum_14 : decode b_M_sum 14 = .ok (.aload_n 0, 1) := by decide +kernel
theorem d_M_sum_15 : decode b_M_sum 15 = .ok (.getfield 45, 3) := by decide +kernel
theorem d_M_sum_18 : decode b_M_sum 18 = .ok (.iload_n 3, 1) := by decide +kernel
theorem d_M_sum_19 : decode b_M_sum 19 = .ok (.baload, 1) := by decide +kernel
theorem d_M_sum_20 : decode b_M_sum 20 = .ok (.ifCond .eq 7, 3) := by decide +kernel
theorem d_M_sum_23 : decode b_M_sum 23 = .ok (.lconst 1, 1) := by decide +kernel
theorem d_M_sum_24 : decode b_M_sum 24 = .ok (.goto 4, 3) := by decide +kernel
theorem d_M_sum_27 : decode b_M_sum 27 = .ok (.lconst 0, 1) := by decide +kernel
theorem d_M_sum_28 : decode b_M_sum 28 = .ok (.lstore 4, 2) := by decide +kernel
theorem d_M_sum_30 : decode b_M_sum 30 = .ok (.iconst 0, 1) := by decide +kernel
theorem d_M_sum_31 : decode b_M_sum 31 = .ok (.istore 6, 2) := by decide +kernel
theorem d_M_sum_33 : decode b_M_sum 33 = .ok (.iload 6, 2) := by decide +kernel
theorem d_M_sum_35 : decode b_M_sum 35 = .ok (.aload_n 0, 1) := by decide +kernel
theorem d_M_sum_36 : decode b_M_sum 36 = .ok (.getfield 61, 3) := by decide +kernel
theorem d_M_sum_39 : decode b_M_sum 39 = .ok (.if_icmp .ge 101, 3) := by decide +kernel
theorem d_M_sum_42 : decode b_M_sum 42 = .ok (.iload_n 3, 1) := by decide +kernel
theorem d_M_sum_43 : decode b_M_sum 43 = .ok (.iload 6, 2) := by decide +kernel
theorem d_M_sum_45 : decode b_M_sum 45 = .ok (.ishr, 1) := by decide +kernel
theorem d_M_sum_46 : decode b_M_sum 46 = .ok (.iconst 1, 1) := by decide +kernel
theorem d_M_sum_47 : decode b_M_sum 47 = .ok (.iand, 1) := by decide +kernel
theorem d_M_sum_48 : decode b_M_sum 48 = .ok (.iconst 1, 1) := by decide +kernel
theorem d_M_sum_49 : decode b_M_sum 49 = .ok (.if_icmp .ne 7, 3) := by decide +kernel
theorem d_M_sum_52 : decode b_M_sum 52 = .ok (.iconst 1, 1) := by decide +kernel
theorem d_M_sum_53 : decode b_M_sum 53 = .ok (.goto 4, 3) := by decide +kernel
theorem d_M_sum_56 : decode b_M_sum 56 = .ok (.iconst 0, 1) := by decide +kernel
theorem d_M_sum_57 : decode b_M_sum 57 = .ok (.istore 7, 2) := by decide +kernel
theorem d_M_sum_59 : decode b_M_sum 59 = .ok (.iload 7, 2) := by decide +kernel
theorem d_M_sum_61 : decode b_M_sum 61 = .ok (.ifCond .eq 13, 3) := by decide +kernel
theorem d_M_sum_64 : decode b_M_sum 64 = .ok (.aload_n 0, 1) := by decide +kernel
theorem d_M_sum_65 : decode b_M_sum 65 = .ok (.getfield 7, 3) := by decide +kernel
theorem d_M_sum_68 : decode b_M_sum 68 = .ok (.iload 6, 2) := by decide +kernel
theorem d_M_sum_70 : decode b_M_sum 70 = .ok (.iaload, 1) := by decide +kernel
theorem d_M_sum_71 : decode b_M_sum 71 = .ok (.goto 13, 3) := by decide +kernel
theorem d_M_sum_74 : decode b_M_sum 74 = .ok (.bipush 16, 2) := by decide +kernel
theorem d_M_sum_76 : decode b_M_sum 76 = .ok (.aload_n 0, 1) := by decide +kernel
theorem d_M_sum_77 : decode b_M_sum 77 = .ok (.getfield 7, 3) := by decide +kernel
theorem d_M_sum_80 : decode b_M_sum 80 = .ok (.iload 6, 2) := by decide +kernel
theorem d_M_sum_82 : decode b_M_sum 82 = .ok (.iaload, 1) := by decide +kernel
theorem d_M_sum_83 : decode b_M_sum 83 = .ok (.isub, 1) := by decide +kernel
theorem d_M_sum_84 : decode b_M_sum 84 = .ok (.istore 8, 2) := by decide +kernel
theorem d_M_sum_86 : decode b_M_sum 86 = .ok (.lload 4, 2) := by decide +kernel
theorem d_M_sum_88 : decode b_M_sum 88 = .ok (.aload_n 0, 1) := by decide +kernel
theorem d_M_sum_89 : decode b_M_sum 89 = .ok (.getfield 13, 3) := by decide +kernel
theorem d_M_sum_92 : decode b_M_sum 92 = .ok (.iload 6, 2) := by decide +kernel
theorem d_M_sum_94 : decode b_M_sum 94 = .ok (.iaload, 1) := by decide +kernel
theorem d_M_sum_95 : decode b_M_sum 95 = .ok (.ifCond .ne 8, 3) := by decide +kernel
theorem d_M_sum_98 : decode b_M_sum 98 = .ok (.iload 8, 2) := by decide +kernel
theorem d_M_sum_100 : decode b_M_sum 100 = .ok (.goto 30, 3) := by decide +kernel
theorem d_M_sum_103 : decode b_M_sum 103 = .ok (.aload_n 0, 1) := by decide +kernel
theorem d_M_sum_104 : decode b_M_sum 104 = .ok (.getfield 13, 3) := by decide +kernel
theorem d_M_sum_107 : decode b_M_sum 107 = .ok (.iload 6, 2) := by decide +kernel
theorem d_M_sum_109 : decode b_M_sum 109 = .ok (.iaload, 1) := by decide +kernel
theorem d_M_sum_110 : decode b_M_sum 110 = .ok (.iconst 2, 1) := by decide +kernel
theorem d_M_sum_111 : decode b_M_sum 111 = .ok (.if_icmp .ne 7, 3) := by decide +kernel
theorem d_M_sum_114 : decode b_M_sum 114 = .ok (.iconst 1, 1) := by decide +kernel
theorem d_M_sum_115 : decode b_M_sum 115 = .ok (.goto 4, 3) := by decide +kernel
theorem d_M_sum_118 : decode b_M_sum 118 = .ok (.iconst 0, 1) := by decide +kernel
theorem d_M_sum_119 : decode b_M_sum 119 = .ok (.iload 7, 2) := by decide +kernel
theorem d_M_sum_121 : decode b_M_sum 121 = .ok (.if_icmp .ne 8, 3) := by decide +kernel
theorem d_M_sum_124 : decode b_M_sum 124 = .ok (.bipush 16, 2) := by decide +kernel
theorem d_M_sum_126 : decode b_M_sum 126 = .ok (.goto 4, 3) := by decide +kernel
theorem d_M_sum_129 : decode b_M_sum 129 = .ok (.iconst 0, 1) := by decide +kernel
theorem d_M_sum_130 : decode b_M_sum 130 = .ok (.i2l, 1) := by decide +kernel
theorem d_M_sum_131 : decode b_M_sum 131 = .ok (.lmul, 1) := by decide +kernel
theorem d_M_sum_132 : decode b_M_sum 132 = .ok (.lstore 4, 2) := by decide +kernel
theorem d_M_sum_134 : decode b_M_sum 134 = .ok (.iinc 6 1, 3) := by decide +kernel
theorem d_M_sum_137 : decode b_M_sum 137 = .ok (.goto (-104), 3) := by decide +kernel
theorem d_M_sum_140 : decode b_M_sum 140 = .ok (.lload_n 1, 1) := by decide +kernel
theorem d_M_sum_141 : decode b_M_sum 141 = .ok (.lload 4, 2) := by decide +kernel
theorem d_M_sum_143 : decode b_M_sum 143 = .ok (.ladd, 1) := by decide +kernel
theorem d_M_sum_144 : decode b_M_sum 144 = .ok (.lstore_n 1, 1) := by decide +kernel
theorem d_M_sum_145 : decode b_M_sum 145 = .ok (.iinc 3 1, 3) := by decide +kernel
theorem d_M_sum_148 : decode b_M_sum 148 = .ok (.goto (-144), 3) := by decide +kernel
theorem d_M_sum_151 : decode b_M_sum 151 = .ok (.lload_n 1, 1) := by decide +kernel
theorem d_M_sum_152 : decode b_M_sum 152 = .ok (.lreturn, 1) := by decide +kernel
def rm_M_sum : Room := { frames := 0, cells := 0, slots := 0, locals := 0 }
def f_M_sum_130 (fu : Nat) (k4 : Nat → Int64 → Int32 → List va_E → Option (Int64 × List va_E)) (k33 : Nat → Int64 → Int32 → Int64 → Int32 → List va_E → Option (Int64 × List va_E)) (v0 : Nat) (v1 : Int64) (v3 : Int32) (v6 : Int32) (s0 : Int64) (s1 : Int32) (w : List va_E) : Option (Int64 × List va_E) := (k33 (v0) (v1) (v3) ((s0 * (s1).toInt64)) ((v6 + (1 : Int32))) w)
def f_M_sum_119 (fu : Nat) (k4 : Nat → Int64 → Int32 → List va_E → Option (Int64 × List va_E)) (k33 : Nat → Int64 → Int32 → Int64 → Int32 → List va_E → Option (Int64 × List va_E)) (v0 : Nat) (v1 : Int64) (v3 : Int32) (v6 : Int32) (v7 : Int32) (s0 : Int64) (s1 : Int32) (w : List va_E) : Option (Int64 × List va_E) := (if s1 = v7 then (f_M_sum_130 fu k4 k33 (v0) (v1) (v3) (v6) (s0) ((16 : Int32)) w) else (f_M_sum_130 fu k4 k33 (v0) (v1) (v3) (v6) (s0) ((0 : Int32)) w))
def f_M_sum_84 (fu : Nat) (k4 : Nat → Int64 → Int32 → List va_E → Option (Int64 × List va_E)) (k33 : Nat → Int64 → Int32 → Int64 → Int32 → List va_E → Option (Int64 × List va_E)) (v0 : Nat) (v1 : Int64) (v3 : Int32) (v4 : Int64) (v6 : Int32) (v7 : Int32) (s0 : Int32) (w : List va_E) : Option (Int64 × List va_E) := ((hp_gr w v0 7 3).bind fun q1 => ((hp_ri w q1 v6).bind fun x2 => (if x2 = 0 then (f_M_sum_130 fu k4 k33 (v0) (v1) (v3) (v6) (v4) (s0) w) else ((hp_gr w v0 7 3).bind fun q3 => ((hp_ri w q3 v6).bind fun x4 => (if x4 = (2 : Int32) then (f_M_sum_119 fu k4 k33 (v0) (v1) (v3) (v6) (v7) (v4) ((1 : Int32)) w) else (f_M_sum_119 fu k4 k33 (v0) (v1) (v3) (v6) (v7) (v4) ((0 : Int32)) w)))))))
def f_M_sum_57 (fu : Nat) (k4 : Nat → Int64 → Int32 → List va_E → Option (Int64 × List va_E)) (k33 : Nat → Int64 → Int32 → Int64 → Int32 → List va_E → Option (Int64 × List va_E)) (v0 : Nat) (v1 : Int64) (v3 : Int32) (v4 : Int64) (v6 : Int32) (s0 : Int32) (w : List va_E) : Option (Int64 × List va_E) := (if s0 = 0 then ((hp_gr w v0 7 2).bind fun q1 => ((hp_ri w q1 v6).bind fun x2 => (f_M_sum_84 fu k4 k33 (v0) (v1) (v3) (v4) (v6) (s0) (((16 : Int32) - x2)) w))) else ((hp_gr w v0 7 2).bind fun q3 => ((hp_ri w q3 v6).bind fun x4 => (f_M_sum_84 fu k4 k33 (v0) (v1) (v3) (v4) (v6) (s0) (x4) w))))
def f_M_sum_33 (fu : Nat) (k4 : Nat → Int64 → Int32 → List va_E → Option (Int64 × List va_E)) : Nat → Nat → Int64 → Int32 → Int64 → Int32 → List va_E → Option (Int64 × List va_E)
  | 0, _, _, _, _, _, _ => none
  | n + 1, v0, v1, v3, v4, v6, w => ((hp_gi w v0 7 1).bind fun x1 => (if x1 ≤ v6 then (k4 (v0) ((v1 + v4)) ((v3 + (1 : Int32))) w) else (if ((v3 >>> (v6 &&& 31)) &&& (1 : Int32)) = (1 : Int32) then (f_M_sum_57 fu k4 (f_M_sum_33 fu k4 n) (v0) (v1) (v3) (v4) (v6) ((1 : Int32)) w) else (f_M_sum_57 fu k4 (f_M_sum_33 fu k4 n) (v0) (v1) (v3) (v4) (v6) ((0 : Int32)) w))))
def f_M_sum_28 (fu : Nat) (k4 : Nat → Int64 → Int32 → List va_E → Option (Int64 × List va_E)) (v0 : Nat) (v1 : Int64) (v3 : Int32) (s0 : Int64) (w : List va_E) : Option (Int64 × List va_E) := (f_M_sum_33 fu k4 fu (v0) (v1) (v3) (s0) ((0 : Int32)) w)
def f_M_sum_4 (fu : Nat) : Nat → Nat → Int64 → Int32 → List va_E → Option (Int64 × List va_E)
  | 0, _, _, _, _ => none
  | n + 1, v0, v1, v3, w => ((hp_gi w v0 7 1).bind fun x1 => (if ((1 : Int32) <<< (x1 &&& 31)) ≤ v3 then (some (v1, w)) else ((hp_gr w v0 7 14).bind fun q2 => ((hp_rz w q2 v3).bind fun x3 => (if x3 = 0 then (f_M_sum_28 fu (f_M_sum_4 fu n) (v0) (v1) (v3) ((0 : Int64)) w) else (f_M_sum_28 fu (f_M_sum_4 fu n) (v0) (v1) (v3) ((1 : Int64)) w))))))
def f_M_sum (fu : Nat) (v0 : Nat) (w : List va_E) : Option (Int64 × List va_E) := (f_M_sum_4 fu fu (v0) ((0 : Int64)) ((0 : Int32)) w)
section
variable {p : Program} {l : Launch} {e : Env} {s : State} {m : MethodId} {args : Array Value} {below : List Frame} {meth : Method} {c : Code} {D : va_G} {ca : Nat → Nat} {A : Nat → Prop} {ad : Nat → Nat}
set_option maxRecDepth 100000 in
set_option maxHeartbeats 4000000 in
theorem v_M_sum_130 (K : av_K p s m args meth c D cl8 ca A b_M_sum 9 R_M WS) (G : av_G NS tabON A s s.heap) (hr : meth.sig.returnType = some .long) (fu : Nat) {r : Int64 × List va_E} (k4 : Nat → Int64 → Int32 → List va_E → Option (Int64 × List va_E)) (k33 : Nat → Int64 → Int32 → Int64 → Int32 → List va_E → Option (Int64 × List va_E)) (hk4 : ∀ (v0 : Nat) (v1 : Int64) (v3 : Int32) (w : List va_E), k4 v0 v1 v3 w = some r → av_VL p l e rm_M_sum s m args below meth c D cl8 A ad ca 9 r 4 [some (.ref v0), some (.long v1), none, some (.int v3), none, none, none, none, none] [] w) (hk33 : ∀ (v0 : Nat) (v1 : Int64) (v3 : Int32) (v4 : Int64) (v6 : Int32) (w : List va_E), k33 v0 v1 v3 v4 v6 w = some r → av_VL p l e rm_M_sum s m args below meth c D cl8 A ad ca 9 r 33 [some (.ref v0), some (.long v1), none, some (.int v3), some (.long v4), none, some (.int v6), none, none] [] w) (v0 : Nat) (v1 : Int64) (v3 : Int32) (v6 : Int32) (s0 : Int64) (s1 : Int32) (w : List va_E) (h : f_M_sum_130 fu k4 k33 v0 v1 v3 v6 s0 s1 w = some r) : av_VL p l e rm_M_sum s m args below meth c D cl8 A ad ca 9 r 130 [some (.ref v0), some (.long v1), none, some (.int v3), none, none, some (.int v6), none, none] [.int s1, .long s0] w := by
  unfold f_M_sum_130 at h
  refine av_i2l K d_M_sum_130 ?_
  refine av_lmul K d_M_sum_131 ?_
  refine av_lstore (L' := [some (.ref v0), some (.long v1), none, some (.int v3), some (.long (s0 * (s1).toInt64)), none, some (.int v6), none, none]) K d_M_sum_132 (Nat.le_of_ble_eq_true rfl) rfl ?_
  refine av_iinc (v := (v6 + (1 : Int32))) (L' := [some (.ref v0), some (.long v1), none, some (.int v3), some (.long (s0 * (s1).toInt64)), none, some (.int (v6 + (1 : Int32))), none, none]) K d_M_sum_134 rfl (congrArg (fun z => v6 + z) (show Int32.ofInt 1 = (1 : Int32) by decide)) (Nat.le_of_ble_eq_true rfl) rfl ?_
  refine av_goto (tgt := 33) K d_M_sum_137 rfl ?_
  exact hk33 (v0) (v1) (v3) ((s0 * (s1).toInt64)) ((v6 + (1 : Int32))) _ h
set_option maxRecDepth 100000 in
set_option maxHeartbeats 4000000 in
theorem v_M_sum_119 (K : av_K p s m args meth c D cl8 ca A b_M_sum 9 R_M WS) (G : av_G NS tabON A s s.heap) (hr : meth.sig.returnType = some .long) (fu : Nat) {r : Int64 × List va_E} (k4 : Nat → Int64 → Int32 → List va_E → Option (Int64 × List va_E)) (k33 : Nat → Int64 → Int32 → Int64 → Int32 → List va_E → Option (Int64 × List va_E)) (hk4 : ∀ (v0 : Nat) (v1 : Int64) (v3 : Int32) (w : List va_E), k4 v0 v1 v3 w = some r → av_VL p l e rm_M_sum s m args below meth c D cl8 A ad ca 9 r 4 [some (.ref v0), some (.long v1), none, some (.int v3), none, none, none, none, none] [] w) (hk33 : ∀ (v0 : Nat) (v1 : Int64) (v3 : Int32) (v4 : Int64) (v6 : Int32) (w : List va_E), k33 v0 v1 v3 v4 v6 w = some r → av_VL p l e rm_M_sum s m args below meth c D cl8 A ad ca 9 r 33 [some (.ref v0), some (.long v1), none, some (.int v3), some (.long v4), none, some (.int v6), none, none] [] w) (v0 : Nat) (v1 : Int64) (v3 : Int32) (v6 : Int32) (v7 : Int32) (s0 : Int64) (s1 : Int32) (w : List va_E) (h : f_M_sum_119 fu k4 k33 v0 v1 v3 v6 v7 s0 s1 w = some r) : av_VL p l e rm_M_sum s m args below meth c D cl8 A ad ca 9 r 119 [some (.ref v0), some (.long v1), none, some (.int v3), none, none, some (.int v6), some (.int v7), none] [.int s1, .long s0] w := by
  unfold f_M_sum_119 at h
  refine av_iload K d_M_sum_119 rfl ?_
  refine av_icmp_ne (tgt := 129) K d_M_sum_121 rfl (fun hc => ?_) (fun hc => ?_)
  · rw [if_neg hc] at h
    refine av_iconst (v := (0 : Int32)) K d_M_sum_129 (by decide) ?_
    refine hv_fg (L' := [some (.ref v0), some (.long v1), none, some (.int v3), none, none, some (.int v6), none, none]) [7] rfl ?_
    exact v_M_sum_130 K G hr fu k4 k33 hk4 hk33 (v0) (v1) (v3) (v6) (s0) ((0 : Int32)) _ h
  · rw [if_pos hc] at h
    refine av_bipush (v := (16 : Int32)) K d_M_sum_124 (by decide) ?_
    refine av_goto (tgt := 130) K d_M_sum_126 rfl ?_
    refine hv_fg (L' := [some (.ref v0), some (.long v1), none, some (.int v3), none, none, some (.int v6), none, none]) [7] rfl ?_
    exact v_M_sum_130 K G hr fu k4 k33 hk4 hk33 (v0) (v1) (v3) (v6) (s0) ((16 : Int32)) _ h
set_option maxRecDepth 100000 in
set_option maxHeartbeats 4000000 in
theorem v_M_sum_84 (K : av_K p s m args meth c D cl8 ca A b_M_sum 9 R_M WS) (G : av_G NS tabON A s s.heap) (hr : meth.sig.returnType = some .long) (fu : Nat) {r : Int64 × List va_E} (k4 : Nat → Int64 → Int32 → List va_E → Option (Int64 × List va_E)) (k33 : Nat → Int64 → Int32 → Int64 → Int32 → List va_E → Option (Int64 × List va_E)) (hk4 : ∀ (v0 : Nat) (v1 : Int64) (v3 : Int32) (w : List va_E), k4 v0 v1 v3 w = some r → av_VL p l e rm_M_sum s m args below meth c D cl8 A ad ca 9 r 4 [some (.ref v0), some (.long v1), none, some (.int v3), none, none, none, none, none] [] w) (hk33 : ∀ (v0 : Nat) (v1 : Int64) (v3 : Int32) (v4 : Int64) (v6 : Int32) (w : List va_E), k33 v0 v1 v3 v4 v6 w = some r → av_VL p l e rm_M_sum s m args below meth c D cl8 A ad ca 9 r 33 [some (.ref v0), some (.long v1), none, some (.int v3), some (.long v4), none, some (.int v6), none, none] [] w) (v0 : Nat) (v1 : Int64) (v3 : Int32) (v4 : Int64) (v6 : Int32) (v7 : Int32) (s0 : Int32) (w : List va_E) (h : f_M_sum_84 fu k4 k33 v0 v1 v3 v4 v6 v7 s0 w = some r) : av_VL p l e rm_M_sum s m args below meth c D cl8 A ad ca 9 r 84 [some (.ref v0), some (.long v1), none, some (.int v3), some (.long v4), none, some (.int v6), some (.int v7), none] [.int s0] w := by
  unfold f_M_sum_84 at h
  refine av_istore (L' := [some (.ref v0), some (.long v1), none, some (.int v3), some (.long v4), none, some (.int v6), some (.int v7), some (.int s0)]) K d_M_sum_84 (Nat.le_of_ble_eq_true rfl) rfl ?_
  refine av_lload K d_M_sum_86 rfl ?_
  refine av_aload_n K d_M_sum_88 rfl rfl ?_
  obtain ⟨q1, eq1, h⟩ := hp_bd h
  refine hv_gr K fl_M_13 d_M_sum_89 eq1 ?_
  refine av_iload K d_M_sum_92 rfl ?_
  obtain ⟨x2, ex2, h⟩ := hp_bd h
  refine hv_ri K d_M_sum_94 ex2 ?_
  refine av_if_ne (tgt := 103) K d_M_sum_95 rfl (fun hc => ?_) (fun hc => ?_)
  · rw [if_neg hc] at h
    refine av_aload_n K d_M_sum_103 rfl rfl ?_
    obtain ⟨q3, eq3, h⟩ := hp_bd h
    refine hv_gr K fl_M_13 d_M_sum_104 eq3 ?_
    refine av_iload K d_M_sum_107 rfl ?_
    obtain ⟨x4, ex4, h⟩ := hp_bd h
    refine hv_ri K d_M_sum_109 ex4 ?_
    refine av_iconst (v := (2 : Int32)) K d_M_sum_110 (by decide) ?_
    refine av_icmp_ne (tgt := 118) K d_M_sum_111 rfl (fun hc => ?_) (fun hc => ?_)
    · rw [if_neg hc] at h
      refine av_iconst (v := (0 : Int32)) K d_M_sum_118 (by decide) ?_
      refine hv_fg (L' := [some (.ref v0), some (.long v1), none, some (.int v3), none, none, some (.int v6), some (.int v7), none]) [4, 8] rfl ?_
      exact v_M_sum_119 K G hr fu k4 k33 hk4 hk33 (v0) (v1) (v3) (v6) (v7) (v4) ((0 : Int32)) _ h
    · rw [if_pos hc] at h
      refine av_iconst (v := (1 : Int32)) K d_M_sum_114 (by decide) ?_
      refine av_goto (tgt := 119) K d_M_sum_115 rfl ?_
      refine hv_fg (L' := [some (.ref v0), some (.long v1), none, some (.int v3), none, none, some (.int v6), some (.int v7), none]) [4, 8] rfl ?_
      exact v_M_sum_119 K G hr fu k4 k33 hk4 hk33 (v0) (v1) (v3) (v6) (v7) (v4) ((1 : Int32)) _ h
  · rw [if_pos hc] at h
    refine av_iload K d_M_sum_98 rfl ?_
    refine av_goto (tgt := 130) K d_M_sum_100 rfl ?_
    refine hv_fg (L' := [some (.ref v0), some (.long v1), none, some (.int v3), none, none, some (.int v6), none, none]) [4, 7, 8] rfl ?_
    exact v_M_sum_130 K G hr fu k4 k33 hk4 hk33 (v0) (v1) (v3) (v6) (v4) (s0) _ h
set_option maxRecDepth 100000 in
set_option maxHeartbeats 4000000 in
theorem v_M_sum_57 (K : av_K p s m args meth c D cl8 ca A b_M_sum 9 R_M WS) (G : av_G NS tabON A s s.heap) (hr : meth.sig.returnType = some .long) (fu : Nat) {r : Int64 × List va_E} (k4 : Nat → Int64 → Int32 → List va_E → Option (Int64 × List va_E)) (k33 : Nat → Int64 → Int32 → Int64 → Int32 → List va_E → Option (Int64 × List va_E)) (hk4 : ∀ (v0 : Nat) (v1 : Int64) (v3 : Int32) (w : List va_E), k4 v0 v1 v3 w = some r → av_VL p l e rm_M_sum s m args below meth c D cl8 A ad ca 9 r 4 [some (.ref v0), some (.long v1), none, some (.int v3), none, none, none, none, none] [] w) (hk33 : ∀ (v0 : Nat) (v1 : Int64) (v3 : Int32) (v4 : Int64) (v6 : Int32) (w : List va_E), k33 v0 v1 v3 v4 v6 w = some r → av_VL p l e rm_M_sum s m args below meth c D cl8 A ad ca 9 r 33 [some (.ref v0), some (.long v1), none, some (.int v3), some (.long v4), none, some (.int v6), none, none] [] w) (v0 : Nat) (v1 : Int64) (v3 : Int32) (v4 : Int64) (v6 : Int32) (s0 : Int32) (w : List va_E) (h : f_M_sum_57 fu k4 k33 v0 v1 v3 v4 v6 s0 w = some r) : av_VL p l e rm_M_sum s m args below meth c D cl8 A ad ca 9 r 57 [some (.ref v0), some (.long v1), none, some (.int v3), some (.long v4), none, some (.int v6), none, none] [.int s0] w := by
  unfold f_M_sum_57 at h
  refine av_istore (L' := [some (.ref v0), some (.long v1), none, some (.int v3), some (.long v4), none, some (.int v6), some (.int s0), none]) K d_M_sum_57 (Nat.le_of_ble_eq_true rfl) rfl ?_
  refine av_iload K d_M_sum_59 rfl ?_
  refine av_if_eq (tgt := 74) K d_M_sum_61 rfl (fun hc => ?_) (fun hc => ?_)
  · rw [if_pos hc] at h
    refine av_bipush (v := (16 : Int32)) K d_M_sum_74 (by decide) ?_
    refine av_aload_n K d_M_sum_76 rfl rfl ?_
    obtain ⟨q1, eq1, h⟩ := hp_bd h
    refine hv_gr K fl_M_7 d_M_sum_77 eq1 ?_
    refine av_iload K d_M_sum_80 rfl ?_
    obtain ⟨x2, ex2, h⟩ := hp_bd h
    refine hv_ri K d_M_sum_82 ex2 ?_
    refine av_isub K d_M_sum_83 ?_
    exact v_M_sum_84 K G hr fu k4 k33 hk4 hk33 (v0) (v1) (v3) (v4) (v6) (s0) (((16 : Int32) - x2)) _ h
  · rw [if_neg hc] at h
    refine av_aload_n K d_M_sum_64 rfl rfl ?_
    obtain ⟨q3, eq3, h⟩ := hp_bd h
    refine hv_gr K fl_M_7 d_M_sum_65 eq3 ?_
    refine av_iload K d_M_sum_68 rfl ?_
    obtain ⟨x4, ex4, h⟩ := hp_bd h
    refine hv_ri K d_M_sum_70 ex4 ?_
    refine av_goto (tgt := 84) K d_M_sum_71 rfl ?_
    exact v_M_sum_84 K G hr fu k4 k33 hk4 hk33 (v0) (v1) (v3) (v4) (v6) (s0) (x4) _ h
set_option maxRecDepth 100000 in
set_option maxHeartbeats 4000000 in
theorem v_M_sum_33 (K : av_K p s m args meth c D cl8 ca A b_M_sum 9 R_M WS) (G : av_G NS tabON A s s.heap) (hr : meth.sig.returnType = some .long) (fu : Nat) {r : Int64 × List va_E} (k4 : Nat → Int64 → Int32 → List va_E → Option (Int64 × List va_E)) (hk4 : ∀ (v0 : Nat) (v1 : Int64) (v3 : Int32) (w : List va_E), k4 v0 v1 v3 w = some r → av_VL p l e rm_M_sum s m args below meth c D cl8 A ad ca 9 r 4 [some (.ref v0), some (.long v1), none, some (.int v3), none, none, none, none, none] [] w) : ∀ (n : Nat) (v0 : Nat) (v1 : Int64) (v3 : Int32) (v4 : Int64) (v6 : Int32) (w : List va_E), f_M_sum_33 fu k4 n v0 v1 v3 v4 v6 w = some r → av_VL p l e rm_M_sum s m args below meth c D cl8 A ad ca 9 r 33 [some (.ref v0), some (.long v1), none, some (.int v3), some (.long v4), none, some (.int v6), none, none] [] w := by
  intro n
  induction n with
  | zero => intro _ _ _ _ _ _ h; cases h
  | succ n ih =>
    intro v0 v1 v3 v4 v6 w h
    unfold f_M_sum_33 at h
    refine av_iload K d_M_sum_33 rfl ?_
    refine av_aload_n K d_M_sum_35 rfl rfl ?_
    obtain ⟨x1, ex1, h⟩ := hp_bd h
    refine hv_gi K fl_M_61 d_M_sum_36 ex1 ?_
    refine av_icmp_ge (tgt := 140) K d_M_sum_39 rfl (fun hc => ?_) (fun hc => ?_)
    · rw [if_pos hc] at h
      refine av_lload_n K d_M_sum_140 rfl rfl ?_
      refine av_lload K d_M_sum_141 rfl ?_
      refine av_ladd K d_M_sum_143 ?_
      refine av_lstore_n (L' := [some (.ref v0), some (.long (v1 + v4)), none, some (.int v3), some (.long v4), none, some (.int v6), none, none]) K d_M_sum_144 rfl (Nat.le_of_ble_eq_true rfl) rfl ?_
      refine av_iinc (v := (v3 + (1 : Int32))) (L' := [some (.ref v0), some (.long (v1 + v4)), none, some (.int (v3 + (1 : Int32))), some (.long v4), none, some (.int v6), none, none]) K d_M_sum_145 rfl (congrArg (fun z => v3 + z) (show Int32.ofInt 1 = (1 : Int32) by decide)) (Nat.le_of_ble_eq_true rfl) rfl ?_
      refine av_goto (tgt := 4) K d_M_sum_148 rfl ?_
      refine hv_fg (L' := [some (.ref v0), some (.long (v1 + v4)), none, some (.int (v3 + (1 : Int32))), none, none, none, none, none]) [4, 6] rfl ?_
      exact hk4 (v0) ((v1 + v4)) ((v3 + (1 : Int32))) _ h
    · rw [if_neg hc] at h
      refine av_iload_n K d_M_sum_42 rfl rfl ?_
      refine av_iload K d_M_sum_43 rfl ?_
      refine av_ishr K d_M_sum_45 ?_
      refine av_iconst (v := (1 : Int32)) K d_M_sum_46 (by decide) ?_
      refine av_iand K d_M_sum_47 ?_
      refine av_iconst (v := (1 : Int32)) K d_M_sum_48 (by decide) ?_
      refine av_icmp_ne (tgt := 56) K d_M_sum_49 rfl (fun hc => ?_) (fun hc => ?_)
      · rw [if_neg hc] at h
        refine av_iconst (v := (0 : Int32)) K d_M_sum_56 (by decide) ?_
        exact v_M_sum_57 K G hr fu k4 (f_M_sum_33 fu k4 n) hk4 ih (v0) (v1) (v3) (v4) (v6) ((0 : Int32)) _ h
      · rw [if_pos hc] at h
        refine av_iconst (v := (1 : Int32)) K d_M_sum_52 (by decide) ?_
        refine av_goto (tgt := 57) K d_M_sum_53 rfl ?_
        exact v_M_sum_57 K G hr fu k4 (f_M_sum_33 fu k4 n) hk4 ih (v0) (v1) (v3) (v4) (v6) ((1 : Int32)) _ h
set_option maxRecDepth 100000 in
set_option maxHeartbeats 4000000 in
theorem v_M_sum_28 (K : av_K p s m args meth c D cl8 ca A b_M_sum 9 R_M WS) (G : av_G NS tabON A s s.heap) (hr : meth.sig.returnType = some .long) (fu : Nat) {r : Int64 × List va_E} (k4 : Nat → Int64 → Int32 → List va_E → Option (Int64 × List va_E)) (hk4 : ∀ (v0 : Nat) (v1 : Int64) (v3 : Int32) (w : List va_E), k4 v0 v1 v3 w = some r → av_VL p l e rm_M_sum s m args below meth c D cl8 A ad ca 9 r 4 [some (.ref v0), some (.long v1), none, some (.int v3), none, none, none, none, none] [] w) (v0 : Nat) (v1 : Int64) (v3 : Int32) (s0 : Int64) (w : List va_E) (h : f_M_sum_28 fu k4 v0 v1 v3 s0 w = some r) : av_VL p l e rm_M_sum s m args below meth c D cl8 A ad ca 9 r 28 [some (.ref v0), some (.long v1), none, some (.int v3), none, none, none, none, none] [.long s0] w := by
  unfold f_M_sum_28 at h
  refine av_lstore (L' := [some (.ref v0), some (.long v1), none, some (.int v3), some (.long s0), none, none, none, none]) K d_M_sum_28 (Nat.le_of_ble_eq_true rfl) rfl ?_
  refine av_iconst (v := (0 : Int32)) K d_M_sum_30 (by decide) ?_
  refine av_istore (L' := [some (.ref v0), some (.long v1), none, some (.int v3), some (.long s0), none, some (.int (0 : Int32)), none, none]) K d_M_sum_31 (Nat.le_of_ble_eq_true rfl) rfl ?_
  exact v_M_sum_33 K G hr fu k4 hk4 fu (v0) (v1) (v3) (s0) ((0 : Int32)) _ h
set_option maxRecDepth 100000 in
set_option maxHeartbeats 4000000 in
theorem v_M_sum_4 (K : av_K p s m args meth c D cl8 ca A b_M_sum 9 R_M WS) (G : av_G NS tabON A s s.heap) (hr : meth.sig.returnType = some .long) (fu : Nat) {r : Int64 × List va_E} : ∀ (n : Nat) (v0 : Nat) (v1 : Int64) (v3 : Int32) (w : List va_E), f_M_sum_4 fu n v0 v1 v3 w = some r → av_VL p l e rm_M_sum s m args below meth c D cl8 A ad ca 9 r 4 [some (.ref v0), some (.long v1), none, some (.int v3), none, none, none, none, none] [] w := by
  intro n
  induction n with
  | zero => intro _ _ _ _ h; cases h
  | succ n ih =>
    intro v0 v1 v3 w h
    unfold f_M_sum_4 at h
    refine av_iload_n K d_M_sum_4 rfl rfl ?_
    refine av_iconst (v := (1 : Int32)) K d_M_sum_5 (by decide) ?_
    refine av_aload_n K d_M_sum_6 rfl rfl ?_
    obtain ⟨x1, ex1, h⟩ := hp_bd h
    refine hv_gi K fl_M_61 d_M_sum_7 ex1 ?_
    refine av_ishl K d_M_sum_10 ?_
    refine av_icmp_ge (tgt := 151) K d_M_sum_11 rfl (fun hc => ?_) (fun hc => ?_)
    · rw [if_pos hc] at h
      refine av_lload_n K d_M_sum_151 rfl rfl ?_
      obtain rfl := Option.some.inj h
      exact av_lreturn K hr d_M_sum_152 rfl
    · rw [if_neg hc] at h
      refine av_aload_n K d_M_sum_14 rfl rfl ?_
      obtain ⟨q2, eq2, h⟩ := hp_bd h
      refine hv_gr K fl_M_45 d_M_sum_15 eq2 ?_
      refine av_iload_n K d_M_sum_18 rfl rfl ?_
      obtain ⟨x3, ex3, h⟩ := hp_bd h
      refine hv_rz K d_M_sum_19 ex3 ?_
      refine av_if_eq (tgt := 27) K d_M_sum_20 rfl (fun hc => ?_) (fun hc => ?_)
      · rw [if_pos hc] at h
        refine av_lconst (v := (0 : Int64)) K d_M_sum_27 (by decide) ?_
        exact v_M_sum_28 K G hr fu (f_M_sum_4 fu n) ih (v0) (v1) (v3) ((0 : Int64)) _ h
      · rw [if_neg hc] at h
        refine av_lconst (v := (1 : Int64)) K d_M_sum_23 (by decide) ?_
        refine av_goto (tgt := 28) K d_M_sum_24 rfl ?_
        exact v_M_sum_28 K G hr fu (f_M_sum_4 fu n) ih (v0) (v1) (v3) ((1 : Int64)) _ h
set_option maxRecDepth 100000 in
set_option maxHeartbeats 4000000 in
theorem v_M_sum (K : av_K p s m args meth c D cl8 ca A b_M_sum 9 R_M WS) (G : av_G NS tabON A s s.heap) (hr : meth.sig.returnType = some .long) (fu : Nat) {r : Int64 × List va_E} (v0 : Nat) (w : List va_E) (h : f_M_sum fu v0 w = some r) : av_VL p l e rm_M_sum s m args below meth c D cl8 A ad ca 9 r 0 [some (.ref v0), none, none, none, none, none, none, none, none] [] w := by
  unfold f_M_sum at h
  refine av_lconst (v := (0 : Int64)) K d_M_sum_0 (by decide) ?_
  refine av_lstore_n (L' := [some (.ref v0), some (.long (0 : Int64)), none, none, none, none, none, none, none]) K d_M_sum_1 rfl (Nat.le_of_ble_eq_true rfl) rfl ?_
  refine av_iconst (v := (0 : Int32)) K d_M_sum_2 (by decide) ?_
  refine av_istore_n (L' := [some (.ref v0), some (.long (0 : Int64)), none, some (.int (0 : Int32)), none, none, none, none, none]) K d_M_sum_3 rfl (Nat.le_of_ble_eq_true rfl) rfl ?_
  exact v_M_sum_4 K G hr fu fu (v0) ((0 : Int64)) ((0 : Int32)) _ h
end
set_option maxRecDepth 100000 in
theorem c_M_sum {l : Launch} {D : va_G} {ca : Nat → Nat} {tab : Nat → Int64} {fu : Nat} {v0 : Nat} {w : List va_E} {r : Int64 × List va_E} (h : f_M_sum fu v0 w = some r) : av_Cl l D cl8 ca NS tabON y_M_sum w_M_sum rm_M_sum [.ref v0] w (fun v u => (v, u) = r) :=
  av_inL (cc := b_M_sum) (nL := 9) (by decide +kernel) rfl (Nat.le_of_ble_eq_true rfl) (fun p e s m args below meth c A ad K G hr => v_M_sum K G hr fu v0 w h)

-- FaultTreeDeskModel.odds()J
theorem d_M_odds_0 : decode b_M_odds 0 = .ok (.aload_n 0, 1) := by decide +kernel
theorem d_M_odds_1 : decode b_M_odds 1 = .ok (.iconst 1, 1) := by decide +kernel
theorem d_M_odds_2 : decode b_M_odds 2 = .ok (.invokevirtual 90, 3) := by decide +kernel
theorem d_M_odds_5 : decode b_M_odds 5 = .ok (.ifCond .eq 7, 3) := by decide +kernel
theorem d_M_odds_8 : decode b_M_odds 8 = .ok (.lconst 0, 1) := by decide +kernel
theorem d_M_odds_9 : decode b_M_odds 9 = .ok (.goto 7, 3) := by decide +kernel
theorem d_M_odds_12 : decode b_M_odds 12 = .ok (.aload_n 0, 1) := by decide +kernel
theorem d_M_odds_13 : decode b_M_odds 13 = .ok (.invokevirtual 93, 3) := by decide +kernel
theorem d_M_odds_16 : decode b_M_odds 16 = .ok (.lreturn, 1) := by decide +kernel
def rm_M_odds : Room := { frames := 4, cells := 0, slots := 0, locals := 93 }
def f_M_odds_16 (fu : Nat) (s0 : Int64) (w : List va_E) : Option (Int64 × List va_E) := (some (s0, w))
def f_M_odds (fu : Nat) (v0 : Nat) (w : List va_E) : Option (Int64 × List va_E) := ((hp_is w v0 7).bind fun _ => ((f_M_lacks fu v0 (1 : Int32) w).bind fun r1 => (if r1.1 = 0 then ((hp_is r1.2 v0 7).bind fun _ => ((f_M_sum fu v0 r1.2).bind fun r2 => (f_M_odds_16 fu (r2.1) r2.2))) else (f_M_odds_16 fu ((0 : Int64)) r1.2))))
section
variable {p : Program} {l : Launch} {e : Env} {s : State} {m : MethodId} {args : Array Value} {below : List Frame} {meth : Method} {c : Code} {D : va_G} {ca : Nat → Nat} {A : Nat → Prop} {ad : Nat → Nat}
set_option maxRecDepth 100000 in
set_option maxHeartbeats 4000000 in
theorem v_M_odds_16 (K : av_K p s m args meth c D cl8 ca A b_M_odds 1 R_M WS) (G : av_G NS tabON A s s.heap) (hr : meth.sig.returnType = some .long) (fu : Nat) {r : Int64 × List va_E} (s0 : Int64) (w : List va_E) (h : f_M_odds_16 fu s0 w = some r) : av_VL p l e rm_M_odds s m args below meth c D cl8 A ad ca 1 r 16 [none] [.long s0] w := by
  unfold f_M_odds_16 at h
  obtain rfl := Option.some.inj h
  exact av_lreturn K hr d_M_odds_16 rfl
set_option maxRecDepth 100000 in
set_option maxHeartbeats 4000000 in
theorem v_M_odds (K : av_K p s m args meth c D cl8 ca A b_M_odds 1 R_M WS) (G : av_G NS tabON A s s.heap) (hr : meth.sig.returnType = some .long) (fu : Nat) {r : Int64 × List va_E} (v0 : Nat) (w : List va_E) (h : f_M_odds fu v0 w = some r) : av_VL p l e rm_M_odds s m args below meth c D cl8 A ad ca 1 r 0 [some (.ref v0)] [] w := by
  unfold f_M_odds at h
  refine av_aload_n K d_M_odds_0 rfl rfl ?_
  refine av_iconst (v := (1 : Int32)) K d_M_odds_1 (by decide) ?_
  obtain ⟨_, eo2, h⟩ := hp_bd h
  obtain ⟨r1, er1, h⟩ := hp_bd h
  obtain ⟨fs2, ho2⟩ := hp_is_of eo2
  refine av_cVi K G (c_M_lacks (tab := tabON) er1) (cwV 1 K.2.2.2.2.1 (gV ml_M_90 im_M_lacks se_M_lacks in_M co_M_lacks) rfl rfl rfl cd_M_lacks ⟨Nat.le_of_ble_eq_true rfl, Nat.le_of_ble_eq_true rfl⟩) rfl ho2 rfl rfl (Nat.le_of_ble_eq_true rfl) d_M_odds_2 ⟨Nat.zero_le _, Nat.zero_le _⟩ (fun a9 u9 h9 => ?_)
  obtain ⟨rfl, rfl⟩ : a9 = r1.1 ∧ u9 = r1.2 := ⟨congrArg Prod.fst h9, congrArg Prod.snd h9⟩
  refine av_if_eq (tgt := 12) K d_M_odds_5 rfl (fun hc => ?_) (fun hc => ?_)
  · rw [if_pos hc] at h
    refine av_aload_n K d_M_odds_12 rfl rfl ?_
    obtain ⟨_, eo13, h⟩ := hp_bd h
    obtain ⟨r2, er2, h⟩ := hp_bd h
    obtain ⟨fs13, ho13⟩ := hp_is_of eo13
    refine av_cVl K G (c_M_sum (tab := tabON) er2) (cwV 0 K.2.2.2.2.1 (gV ml_M_93 im_M_sum se_M_sum in_M co_M_sum) rfl rfl rfl cd_M_sum ⟨Nat.le_of_ble_eq_true rfl, Nat.le_of_ble_eq_true rfl⟩) rfl ho13 rfl rfl (Nat.le_of_ble_eq_true rfl) d_M_odds_13 ⟨Nat.zero_le _, Nat.zero_le _⟩ (fun a9 u9 h9 => ?_)
    obtain ⟨rfl, rfl⟩ : a9 = r2.1 ∧ u9 = r2.2 := ⟨congrArg Prod.fst h9, congrArg Prod.snd h9⟩
    refine hv_fg (L' := [none]) [0] rfl ?_
    exact v_M_odds_16 K G hr fu (r2.1) _ h
  · rw [if_neg hc] at h
    refine av_lconst (v := (0 : Int64)) K d_M_odds_8 (by decide) ?_
    refine av_goto (tgt := 16) K d_M_odds_9 rfl ?_
    refine hv_fg (L' := [none]) [0] rfl ?_
    exact v_M_odds_16 K G hr fu ((0 : Int64)) _ h
end
set_option maxRecDepth 100000 in
theorem c_M_odds {l : Launch} {D : va_G} {ca : Nat → Nat} {tab : Nat → Int64} {fu : Nat} {v0 : Nat} {w : List va_E} {r : Int64 × List va_E} (h : f_M_odds fu v0 w = some r) : av_Cl l D cl8 ca NS tabON y_M_odds w_M_odds rm_M_odds [.ref v0] w (fun v u => (v, u) = r) :=
  av_inL (cc := b_M_odds) (nL := 1) (by decide +kernel) rfl (Nat.le_of_ble_eq_true rfl) (fun p e s m args below meth c A ad K G hr => v_M_odds K G hr fu v0 w h)

-- FaultTreeDeskModel.digit(I)I
theorem d_M_digit_0 : decode b_M_digit 0 = .ok (.iload_n 1, 1) := by decide +kernel
theorem d_M_digit_1 : decode b_M_digit 1 = .ok (.ifCond .lt 9, 3) := by decide +kernel
theorem d_M_digit_4 : decode b_M_digit 4 = .ok (.iload_n 1, 1) := by decide +kernel
theorem d_M_digit_5 : decode b_M_digit 5 = .ok (.bipush 60, 2) := by decide +kernel
theorem d_M_digit_7 : decode b_M_digit 7 = .ok (.if_icmp .le 10, 3) := by decide +kernel
theorem d_M_digit_10 : decode b_M_digit 10 = .ok (.aload_n 0, 1) := by decide +kernel
theorem d_M_digit_11 : decode b_M_digit 11 = .ok (.iconst 1, 1) := by decide +kernel
theorem d_M_digit_12 : decode b_M_digit 12 = .ok (.putfield 58, 3) := by decide +kernel
theorem d_M_digit_15 : decode b_M_digit 15 = .ok (.iconst 0, 1) := by decide +kernel
theorem d_M_digit_16 : decode b_M_digit 16 = .ok (.ireturn, 1) := by decide +kernel
theorem d_M_digit_17 : decode b_M_digit 17 = .ok (.aload_n 0, 1) := by decide +kernel
theorem d_M_digit_18 : decode b_M_digit 18 = .ok (.iconst 2, 1) := by decide +kernel
theorem d_M_digit_19 : decode b_M_digit 19 = .ok (.invokevirtual 90, 3) := by decide +kernel
theorem d_M_digit_22 : decode b_M_digit 22 = .ok (.ifCond .eq 5, 3) := by decide +kernel
theorem d_M_digit_25 : decode b_M_digit 25 = .ok (.iconst 0, 1) := by decide +kernel
theorem d_M_digit_26 : decode b_M_digit 26 = .ok (.ireturn, 1) := by decide +kernel
theorem d_M_digit_27 : decode b_M_digit 27 = .ok (.aload_n 0, 1) := by decide +kernel
theorem d_M_digit_28 : decode b_M_digit 28 = .ok (.invokevirtual 93, 3) := by decide +kernel
theorem d_M_digit_31 : decode b_M_digit 31 = .ok (.lstore_n 2, 1) := by decide +kernel
theorem d_M_digit_32 : decode b_M_digit 32 = .ok (.lconst 1, 1) := by decide +kernel
theorem d_M_digit_33 : decode b_M_digit 33 = .ok (.iconst 4, 1) := by decide +kernel
theorem d_M_digit_34 : decode b_M_digit 34 = .ok (.aload_n 0, 1) := by decide +kernel
theorem d_M_digit_35 : decode b_M_digit 35 = .ok (.getfield 61, 3) := by decide +kernel
theorem d_M_digit_38 : decode b_M_digit 38 = .ok (.imul, 1) := by decide +kernel
theorem d_M_digit_39 : decode b_M_digit 39 = .ok (.lshl, 1) := by decide +kernel
theorem d_M_digit_40 : decode b_M_digit 40 = .ok (.lstore 4, 2) := by decide +kernel
theorem d_M_digit_42 : decode b_M_digit 42 = .ok (.lload_n 2, 1) := by decide +kernel
theorem d_M_digit_43 : decode b_M_digit 43 = .ok (.lload 4, 2) := by decide +kernel
theorem d_M_digit_45 : decode b_M_digit 45 = .ok (.lcmp, 1) := by decide +kernel
theorem d_M_digit_46 : decode b_M_digit 46 = .ok (.ifCond .lt 7, 3) := by decide +kernel
theorem d_M_digit_49 : decode b_M_digit 49 = .ok (.iconst 1, 1) := by decide +kernel
theorem d_M_digit_50 : decode b_M_digit 50 = .ok (.goto 4, 3) := by decide +kernel
theorem d_M_digit_53 : decode b_M_digit 53 = .ok (.iconst 0, 1) := by decide +kernel
theorem d_M_digit_54 : decode b_M_digit 54 = .ok (.istore 6, 2) := by decide +kernel
theorem d_M_digit_56 : decode b_M_digit 56 = .ok (.lload_n 2, 1) := by decide +kernel
theorem d_M_digit_57 : decode b_M_digit 57 = .ok (.iload 6, 2) := by decide +kernel
theorem d_M_digit_59 : decode b_M_digit 59 = .ok (.i2l, 1) := by decide +kernel
theorem d_M_digit_60 : decode b_M_digit 60 = .ok (.lload 4, 2) := by decide +kernel
theorem d_M_digit_62 : decode b_M_digit 62 = .ok (.lmul, 1) := by decide +kernel
theorem d_M_digit_63 : decode b_M_digit 63 = .ok (.lsub, 1) := by decide +kernel
theorem d_M_digit_64 : decode b_M_digit 64 = .ok (.lstore_n 2, 1) := by decide +kernel
theorem d_M_digit_65 : decode b_M_digit 65 = .ok (.iconst 0, 1) := by decide +kernel
theorem d_M_digit_66 : decode b_M_digit 66 = .ok (.istore 7, 2) := by decide +kernel
theorem d_M_digit_68 : decode b_M_digit 68 = .ok (.iload 7, 2) := by decide +kernel
theorem d_M_digit_70 : decode b_M_digit 70 = .ok (.iload_n 1, 1) := by decide +kernel
theorem d_M_digit_71 : decode b_M_digit 71 = .ok (.if_icmp .ge 36, 3) := by decide +kernel
theorem d_M_digit_74 : decode b_M_digit 74 = .ok (.ldc2_w 97, 3) := by decide +kernel
theorem d_M_digit_77 : decode b_M_digit 77 = .ok (.lload_n 2, 1) := by decide +kernel
theorem d_M_digit_78 : decode b_M_digit 78 = .ok (.lmul, 1) := by decide +kernel
theorem d_M_digit_79 : decode b_M_digit 79 = .ok (.lstore_n 2, 1) := by decide +kernel
theorem d_M_digit_80 : decode b_M_digit 80 = .ok (.iconst 0, 1) := by decide +kernel
theorem d_M_digit_81 : decode b_M_digit 81 = .ok (.istore 6, 2) := by decide +kernel
theorem d_M_digit_83 : decode b_M_digit 83 = .ok (.lload_n 2, 1) := by decide +kernel
theorem d_M_digit_84 : decode b_M_digit 84 = .ok (.lload 4, 2) := by decide +kernel
theorem d_M_digit_86 : decode b_M_digit 86 = .ok (.lcmp, 1) := by decide +kernel
theorem d_M_digit_87 : decode b_M_digit 87 = .ok (.ifCond .lt 14, 3) := by decide +kernel
theorem d_M_digit_90 : decode b_M_digit 90 = .ok (.lload_n 2, 1) := by decide +kernel
theorem d_M_digit_91 : decode b_M_digit 91 = .ok (.lload 4, 2) := by decide +kernel
theorem d_M_digit_93 : decode b_M_digit 93 = .ok (.lsub, 1) := by decide +kernel
theorem d_M_digit_94 : decode b_M_digit 94 = .ok (.lstore_n 2, 1) := by decide +kernel
theorem d_M_digit_95 : decode b_M_digit 95 = .ok (.iinc 6 1, 3) := by decide +kernel
theorem d_M_digit_98 : decode b_M_digit 98 = .ok (.goto (-15), 3) := by decide +kernel
theorem d_M_digit_101 : decode b_M_digit 101 = .ok (.iinc 7 1, 3) := by decide +kernel
theorem d_M_digit_104 : decode b_M_digit 104 = .ok (.goto (-36), 3) := by decide +kernel
theorem d_M_digit_107 : decode b_M_digit 107 = .ok (.iload 6, 2) := by decide +kernel
theorem d_M_digit_109 : decode b_M_digit 109 = .ok (.ireturn, 1) := by decide +kernel
def rm_M_digit : Room := { frames := 4, cells := 0, slots := 0, locals := 93 }
def f_M_digit_10 (fu : Nat) (v0 : Nat) (w : List va_E) : Option (Int32 × List va_E) := ((hp_pi w v0 7 0 (1 : Int32)).bind fun w1 => (some ((0 : Int32), w1)))
def f_M_digit_83 (fu : Nat) (k68 : Int32 → Int64 → Int64 → Int32 → Int32 → List va_E → Option (Int32 × List va_E)) : Nat → Int32 → Int64 → Int64 → Int32 → Int32 → List va_E → Option (Int32 × List va_E)
  | 0, _, _, _, _, _, _ => none
  | n + 1, v1, v2, v4, v6, v7, w => (if (lg_cmp v2 v4) < 0 then (k68 (v1) (v2) (v4) (v6) ((v7 + (1 : Int32))) w) else (f_M_digit_83 fu k68 n (v1) ((v2 - v4)) (v4) ((v6 + (1 : Int32))) (v7) w))
def f_M_digit_68 (fu : Nat) : Nat → Int32 → Int64 → Int64 → Int32 → Int32 → List va_E → Option (Int32 × List va_E)
  | 0, _, _, _, _, _, _ => none
  | n + 1, v1, v2, v4, v6, v7, w => (if v1 ≤ v7 then (some (v6, w)) else (f_M_digit_83 fu (f_M_digit_68 fu n) fu (v1) (((10 : Int64) * v2)) (v4) ((0 : Int32)) (v7) w))
def f_M_digit_54 (fu : Nat) (v1 : Int32) (v2 : Int64) (v4 : Int64) (s0 : Int32) (w : List va_E) : Option (Int32 × List va_E) := (f_M_digit_68 fu fu (v1) ((v2 - ((s0).toInt64 * v4))) (v4) (s0) ((0 : Int32)) w)
def f_M_digit (fu : Nat) (v0 : Nat) (v1 : Int32) (w : List va_E) : Option (Int32 × List va_E) := (if v1 < 0 then (f_M_digit_10 fu (v0) w) else (if v1 ≤ (60 : Int32) then ((hp_is w v0 7).bind fun _ => ((f_M_lacks fu v0 (2 : Int32) w).bind fun r1 => (if r1.1 = 0 then ((hp_is r1.2 v0 7).bind fun _ => ((f_M_sum fu v0 r1.2).bind fun r2 => ((hp_gi r2.2 v0 7 1).bind fun x3 => (if (lg_cmp r2.1 ((1 : Int64) <<< ((((4 : Int32) * x3)).toInt64 &&& 63))) < 0 then (f_M_digit_54 fu (v1) (r2.1) (((1 : Int64) <<< ((((4 : Int32) * x3)).toInt64 &&& 63))) ((0 : Int32)) r2.2) else (f_M_digit_54 fu (v1) (r2.1) (((1 : Int64) <<< ((((4 : Int32) * x3)).toInt64 &&& 63))) ((1 : Int32)) r2.2))))) else (some ((0 : Int32), r1.2))))) else (f_M_digit_10 fu (v0) w)))
section
variable {p : Program} {l : Launch} {e : Env} {s : State} {m : MethodId} {args : Array Value} {below : List Frame} {meth : Method} {c : Code} {D : va_G} {ca : Nat → Nat} {A : Nat → Prop} {ad : Nat → Nat}
set_option maxRecDepth 100000 in
set_option maxHeartbeats 4000000 in
theorem v_M_digit_10 (K : av_K p s m args meth c D cl8 ca A b_M_digit 8 R_M WS) (G : av_G NS tabON A s s.heap) (hr : meth.sig.returnType = some .int) (fu : Nat) {r : Int32 × List va_E} (v0 : Nat) (w : List va_E) (h : f_M_digit_10 fu v0 w = some r) : av_VI p l e rm_M_digit s m args below meth c D cl8 A ad ca 8 r 10 [some (.ref v0), none, none, none, none, none, none, none] [] w := by
  unfold f_M_digit_10 at h
  refine av_aload_n K d_M_digit_10 rfl rfl ?_
  refine av_iconst (v := (1 : Int32)) K d_M_digit_11 (by decide) ?_
  obtain ⟨w1, ew1, h⟩ := hp_bd h
  refine hv_pi K fp_M_58 d_M_digit_12 ew1 ?_
  refine av_iconst (v := (0 : Int32)) K d_M_digit_15 (by decide) ?_
  obtain rfl := Option.some.inj h
  exact av_ireturn K hr d_M_digit_16 rfl
set_option maxRecDepth 100000 in
set_option maxHeartbeats 4000000 in
theorem v_M_digit_83 (K : av_K p s m args meth c D cl8 ca A b_M_digit 8 R_M WS) (G : av_G NS tabON A s s.heap) (hr : meth.sig.returnType = some .int) (fu : Nat) {r : Int32 × List va_E} (k68 : Int32 → Int64 → Int64 → Int32 → Int32 → List va_E → Option (Int32 × List va_E)) (hk68 : ∀ (v1 : Int32) (v2 : Int64) (v4 : Int64) (v6 : Int32) (v7 : Int32) (w : List va_E), k68 v1 v2 v4 v6 v7 w = some r → av_VI p l e rm_M_digit s m args below meth c D cl8 A ad ca 8 r 68 [none, some (.int v1), some (.long v2), none, some (.long v4), none, some (.int v6), some (.int v7)] [] w) : ∀ (n : Nat) (v1 : Int32) (v2 : Int64) (v4 : Int64) (v6 : Int32) (v7 : Int32) (w : List va_E), f_M_digit_83 fu k68 n v1 v2 v4 v6 v7 w = some r → av_VI p l e rm_M_digit s m args below meth c D cl8 A ad ca 8 r 83 [none, some (.int v1), some (.long v2), none, some (.long v4), none, some (.int v6), some (.int v7)] [] w := by
  intro n
  induction n with
  | zero => intro _ _ _ _ _ _ h; cases h
  | succ n ih =>
    intro v1 v2 v4 v6 v7 w h
    unfold f_M_digit_83 at h
    refine av_lload_n K d_M_digit_83 rfl rfl ?_
    refine av_lload K d_M_digit_84 rfl ?_
    refine av_lcmp K d_M_digit_86 ?_
    refine av_if_lt (tgt := 101) K d_M_digit_87 rfl (fun hc => ?_) (fun hc => ?_)
    · rw [if_pos hc] at h
      refine av_iinc (v := (v7 + (1 : Int32))) (L' := [none, some (.int v1), some (.long v2), none, some (.long v4), none, some (.int v6), some (.int (v7 + (1 : Int32)))]) K d_M_digit_101 rfl (congrArg (fun z => v7 + z) (show Int32.ofInt 1 = (1 : Int32) by decide)) (Nat.le_of_ble_eq_true rfl) rfl ?_
      refine av_goto (tgt := 68) K d_M_digit_104 rfl ?_
      exact hk68 (v1) (v2) (v4) (v6) ((v7 + (1 : Int32))) _ h
    · rw [if_neg hc] at h
      refine av_lload_n K d_M_digit_90 rfl rfl ?_
      refine av_lload K d_M_digit_91 rfl ?_
      refine av_lsub K d_M_digit_93 ?_
      refine av_lstore_n (L' := [none, some (.int v1), some (.long (v2 - v4)), none, some (.long v4), none, some (.int v6), some (.int v7)]) K d_M_digit_94 rfl (Nat.le_of_ble_eq_true rfl) rfl ?_
      refine av_iinc (v := (v6 + (1 : Int32))) (L' := [none, some (.int v1), some (.long (v2 - v4)), none, some (.long v4), none, some (.int (v6 + (1 : Int32))), some (.int v7)]) K d_M_digit_95 rfl (congrArg (fun z => v6 + z) (show Int32.ofInt 1 = (1 : Int32) by decide)) (Nat.le_of_ble_eq_true rfl) rfl ?_
      refine av_goto (tgt := 83) K d_M_digit_98 rfl ?_
      exact ih (v1) ((v2 - v4)) (v4) ((v6 + (1 : Int32))) (v7) _ h
set_option maxRecDepth 100000 in
set_option maxHeartbeats 4000000 in
theorem v_M_digit_68 (K : av_K p s m args meth c D cl8 ca A b_M_digit 8 R_M WS) (G : av_G NS tabON A s s.heap) (hr : meth.sig.returnType = some .int) (fu : Nat) {r : Int32 × List va_E} : ∀ (n : Nat) (v1 : Int32) (v2 : Int64) (v4 : Int64) (v6 : Int32) (v7 : Int32) (w : List va_E), f_M_digit_68 fu n v1 v2 v4 v6 v7 w = some r → av_VI p l e rm_M_digit s m args below meth c D cl8 A ad ca 8 r 68 [none, some (.int v1), some (.long v2), none, some (.long v4), none, some (.int v6), some (.int v7)] [] w := by
  intro n
  induction n with
  | zero => intro _ _ _ _ _ _ h; cases h
  | succ n ih =>
    intro v1 v2 v4 v6 v7 w h
    unfold f_M_digit_68 at h
    refine av_iload K d_M_digit_68 rfl ?_
    refine av_iload_n K d_M_digit_70 rfl rfl ?_
    refine av_icmp_ge (tgt := 107) K d_M_digit_71 rfl (fun hc => ?_) (fun hc => ?_)
    · rw [if_pos hc] at h
      refine av_iload K d_M_digit_107 rfl ?_
      obtain rfl := Option.some.inj h
      exact av_ireturn K hr d_M_digit_109 rfl
    · rw [if_neg hc] at h
      refine av_ldc2 K (cl_M_97) d_M_digit_74 ?_
      refine av_lload_n K d_M_digit_77 rfl rfl ?_
      refine av_lmul K d_M_digit_78 ?_
      refine av_lstore_n (L' := [none, some (.int v1), some (.long ((10 : Int64) * v2)), none, some (.long v4), none, some (.int v6), some (.int v7)]) K d_M_digit_79 rfl (Nat.le_of_ble_eq_true rfl) rfl ?_
      refine av_iconst (v := (0 : Int32)) K d_M_digit_80 (by decide) ?_
      refine av_istore (L' := [none, some (.int v1), some (.long ((10 : Int64) * v2)), none, some (.long v4), none, some (.int (0 : Int32)), some (.int v7)]) K d_M_digit_81 (Nat.le_of_ble_eq_true rfl) rfl ?_
      exact v_M_digit_83 K G hr fu (f_M_digit_68 fu n) ih fu (v1) (((10 : Int64) * v2)) (v4) ((0 : Int32)) (v7) _ h
set_option maxRecDepth 100000 in
set_option maxHeartbeats 4000000 in
theorem v_M_digit_54 (K : av_K p s m args meth c D cl8 ca A b_M_digit 8 R_M WS) (G : av_G NS tabON A s s.heap) (hr : meth.sig.returnType = some .int) (fu : Nat) {r : Int32 × List va_E} (v1 : Int32) (v2 : Int64) (v4 : Int64) (s0 : Int32) (w : List va_E) (h : f_M_digit_54 fu v1 v2 v4 s0 w = some r) : av_VI p l e rm_M_digit s m args below meth c D cl8 A ad ca 8 r 54 [none, some (.int v1), some (.long v2), none, some (.long v4), none, none, none] [.int s0] w := by
  unfold f_M_digit_54 at h
  refine av_istore (L' := [none, some (.int v1), some (.long v2), none, some (.long v4), none, some (.int s0), none]) K d_M_digit_54 (Nat.le_of_ble_eq_true rfl) rfl ?_
  refine av_lload_n K d_M_digit_56 rfl rfl ?_
  refine av_iload K d_M_digit_57 rfl ?_
  refine av_i2l K d_M_digit_59 ?_
  refine av_lload K d_M_digit_60 rfl ?_
  refine av_lmul K d_M_digit_62 ?_
  refine av_lsub K d_M_digit_63 ?_
  refine av_lstore_n (L' := [none, some (.int v1), some (.long (v2 - ((s0).toInt64 * v4))), none, some (.long v4), none, some (.int s0), none]) K d_M_digit_64 rfl (Nat.le_of_ble_eq_true rfl) rfl ?_
  refine av_iconst (v := (0 : Int32)) K d_M_digit_65 (by decide) ?_
  refine av_istore (L' := [none, some (.int v1), some (.long (v2 - ((s0).toInt64 * v4))), none, some (.long v4), none, some (.int s0), some (.int (0 : Int32))]) K d_M_digit_66 (Nat.le_of_ble_eq_true rfl) rfl ?_
  exact v_M_digit_68 K G hr fu fu (v1) ((v2 - ((s0).toInt64 * v4))) (v4) (s0) ((0 : Int32)) _ h
set_option maxRecDepth 100000 in
set_option maxHeartbeats 4000000 in
theorem v_M_digit (K : av_K p s m args meth c D cl8 ca A b_M_digit 8 R_M WS) (G : av_G NS tabON A s s.heap) (hr : meth.sig.returnType = some .int) (fu : Nat) {r : Int32 × List va_E} (v0 : Nat) (v1 : Int32) (w : List va_E) (h : f_M_digit fu v0 v1 w = some r) : av_VI p l e rm_M_digit s m args below meth c D cl8 A ad ca 8 r 0 [some (.ref v0), some (.int v1), none, none, none, none, none, none] [] w := by
  unfold f_M_digit at h
  refine av_iload_n K d_M_digit_0 rfl rfl ?_
  refine av_if_lt (tgt := 10) K d_M_digit_1 rfl (fun hc => ?_) (fun hc => ?_)
  · rw [if_pos hc] at h
    refine hv_fg (L' := [some (.ref v0), none, none, none, none, none, none, none]) [1] rfl ?_
    exact v_M_digit_10 K G hr fu (v0) _ h
  · rw [if_neg hc] at h
    refine av_iload_n K d_M_digit_4 rfl rfl ?_
    refine av_bipush (v := (60 : Int32)) K d_M_digit_5 (by decide) ?_
    refine av_icmp_le (tgt := 17) K d_M_digit_7 rfl (fun hc => ?_) (fun hc => ?_)
    · rw [if_pos hc] at h
      refine av_aload_n K d_M_digit_17 rfl rfl ?_
      refine av_iconst (v := (2 : Int32)) K d_M_digit_18 (by decide) ?_
      obtain ⟨_, eo19, h⟩ := hp_bd h
      obtain ⟨r1, er1, h⟩ := hp_bd h
      obtain ⟨fs19, ho19⟩ := hp_is_of eo19
      refine av_cVi K G (c_M_lacks (tab := tabON) er1) (cwV 1 K.2.2.2.2.1 (gV ml_M_90 im_M_lacks se_M_lacks in_M co_M_lacks) rfl rfl rfl cd_M_lacks ⟨Nat.le_of_ble_eq_true rfl, Nat.le_of_ble_eq_true rfl⟩) rfl ho19 rfl rfl (Nat.le_of_ble_eq_true rfl) d_M_digit_19 ⟨Nat.zero_le _, Nat.zero_le _⟩ (fun a9 u9 h9 => ?_)
      obtain ⟨rfl, rfl⟩ : a9 = r1.1 ∧ u9 = r1.2 := ⟨congrArg Prod.fst h9, congrArg Prod.snd h9⟩
      refine av_if_eq (tgt := 27) K d_M_digit_22 rfl (fun hc => ?_) (fun hc => ?_)
      · rw [if_pos hc] at h
        refine av_aload_n K d_M_digit_27 rfl rfl ?_
        obtain ⟨_, eo28, h⟩ := hp_bd h
        obtain ⟨r2, er2, h⟩ := hp_bd h
        obtain ⟨fs28, ho28⟩ := hp_is_of eo28
        refine av_cVl K G (c_M_sum (tab := tabON) er2) (cwV 0 K.2.2.2.2.1 (gV ml_M_93 im_M_sum se_M_sum in_M co_M_sum) rfl rfl rfl cd_M_sum ⟨Nat.le_of_ble_eq_true rfl, Nat.le_of_ble_eq_true rfl⟩) rfl ho28 rfl rfl (Nat.le_of_ble_eq_true rfl) d_M_digit_28 ⟨Nat.zero_le _, Nat.zero_le _⟩ (fun a9 u9 h9 => ?_)
        obtain ⟨rfl, rfl⟩ : a9 = r2.1 ∧ u9 = r2.2 := ⟨congrArg Prod.fst h9, congrArg Prod.snd h9⟩
        refine av_lstore_n (L' := [some (.ref v0), some (.int v1), some (.long r2.1), none, none, none, none, none]) K d_M_digit_31 rfl (Nat.le_of_ble_eq_true rfl) rfl ?_
        refine av_lconst (v := (1 : Int64)) K d_M_digit_32 (by decide) ?_
        refine av_iconst (v := (4 : Int32)) K d_M_digit_33 (by decide) ?_
        refine av_aload_n K d_M_digit_34 rfl rfl ?_
        obtain ⟨x3, ex3, h⟩ := hp_bd h
        refine hv_gi K fl_M_61 d_M_digit_35 ex3 ?_
        refine av_imul K d_M_digit_38 ?_
        refine av_lshl K d_M_digit_39 ?_
        refine av_lstore (L' := [some (.ref v0), some (.int v1), some (.long r2.1), none, some (.long ((1 : Int64) <<< ((((4 : Int32) * x3)).toInt64 &&& 63))), none, none, none]) K d_M_digit_40 (Nat.le_of_ble_eq_true rfl) rfl ?_
        refine av_lload_n K d_M_digit_42 rfl rfl ?_
        refine av_lload K d_M_digit_43 rfl ?_
        refine av_lcmp K d_M_digit_45 ?_
        refine av_if_lt (tgt := 53) K d_M_digit_46 rfl (fun hc => ?_) (fun hc => ?_)
        · rw [if_pos hc] at h
          refine av_iconst (v := (0 : Int32)) K d_M_digit_53 (by decide) ?_
          refine hv_fg (L' := [none, some (.int v1), some (.long r2.1), none, some (.long ((1 : Int64) <<< ((((4 : Int32) * x3)).toInt64 &&& 63))), none, none, none]) [0] rfl ?_
          exact v_M_digit_54 K G hr fu (v1) (r2.1) (((1 : Int64) <<< ((((4 : Int32) * x3)).toInt64 &&& 63))) ((0 : Int32)) _ h
        · rw [if_neg hc] at h
          refine av_iconst (v := (1 : Int32)) K d_M_digit_49 (by decide) ?_
          refine av_goto (tgt := 54) K d_M_digit_50 rfl ?_
          refine hv_fg (L' := [none, some (.int v1), some (.long r2.1), none, some (.long ((1 : Int64) <<< ((((4 : Int32) * x3)).toInt64 &&& 63))), none, none, none]) [0] rfl ?_
          exact v_M_digit_54 K G hr fu (v1) (r2.1) (((1 : Int64) <<< ((((4 : Int32) * x3)).toInt64 &&& 63))) ((1 : Int32)) _ h
      · rw [if_neg hc] at h
        refine av_iconst (v := (0 : Int32)) K d_M_digit_25 (by decide) ?_
        obtain rfl := Option.some.inj h
        exact av_ireturn K hr d_M_digit_26 rfl
    · rw [if_neg hc] at h
      refine hv_fg (L' := [some (.ref v0), none, none, none, none, none, none, none]) [1] rfl ?_
      exact v_M_digit_10 K G hr fu (v0) _ h
end
set_option maxRecDepth 100000 in
theorem c_M_digit {l : Launch} {D : va_G} {ca : Nat → Nat} {tab : Nat → Int64} {fu : Nat} {v0 : Nat} {v1 : Int32} {w : List va_E} {r : Int32 × List va_E} (h : f_M_digit fu v0 v1 w = some r) : av_Ci l D cl8 ca NS tabON y_M_digit w_M_digit rm_M_digit [.ref v0, .int v1] w (fun v u => (v, u) = r) :=
  av_inI (cc := b_M_digit) (nL := 8) (by decide +kernel) rfl (Nat.le_of_ble_eq_true rfl) (fun p e s m args below meth c A ad K G hr => v_M_digit K G hr fu v0 v1 w h)

-- FaultTreeDeskModel.weight(I)J
theorem d_M_weight_0 : decode b_M_weight 0 = .ok (.aload_n 0, 1) := by decide +kernel
theorem d_M_weight_1 : decode b_M_weight 1 = .ok (.iload_n 1, 1) := by decide +kernel
theorem d_M_weight_2 : decode b_M_weight 2 = .ok (.invokevirtual 67, 3) := by decide +kernel
theorem d_M_weight_5 : decode b_M_weight 5 = .ok (.ifCond .ne 10, 3) := by decide +kernel
theorem d_M_weight_8 : decode b_M_weight 8 = .ok (.aload_n 0, 1) := by decide +kernel
theorem d_M_weight_9 : decode b_M_weight 9 = .ok (.iconst 1, 1) := by decide +kernel
theorem d_M_weight_10 : decode b_M_weight 10 = .ok (.putfield 58, 3) := by decide +kernel
theorem d_M_weight_13 : decode b_M_weight 13 = .ok (.lconst 0, 1) := by decide +kernel
theorem d_M_weight_14 : decode b_M_weight 14 = .ok (.lreturn, 1) := by decide +kernel
theorem d_M_weight_15 : decode b_M_weight 15 = .ok (.aload_n 0, 1) := by decide +kernel
theorem d_M_weight_16 : decode b_M_weight 16 = .ok (.iconst 2, 1) := by decide +kernel
theorem d_M_weight_17 : decode b_M_weight 17 = .ok (.invokevirtual 90, 3) := by decide +kernel
theorem d_M_weight_20 : decode b_M_weight 20 = .ok (.ifCond .eq 5, 3) := by decide +kernel
theorem d_M_weight_23 : decode b_M_weight 23 = .ok (.lconst 0, 1) := by decide +kernel
theorem d_M_weight_24 : decode b_M_weight 24 = .ok (.lreturn, 1) := by decide +kernel
theorem d_M_weight_25 : decode b_M_weight 25 = .ok (.aload_n 0, 1) := by decide +kernel
theorem d_M_weight_26 : decode b_M_weight 26 = .ok (.getfield 13, 3) := by decide +kernel
theorem d_M_weight_29 : decode b_M_weight 29 = .ok (.iload_n 1, 1) := by decide +kernel
theorem d_M_weight_30 : decode b_M_weight 30 = .ok (.iaload, 1) := by decide +kernel
theorem d_M_weight_31 : decode b_M_weight 31 = .ok (.istore_n 2, 1) := by decide +kernel
theorem d_M_weight_32 : decode b_M_weight 32 = .ok (.aload_n 0, 1) := by decide +kernel
theorem d_M_weight_33 : decode b_M_weight 33 = .ok (.getfield 13, 3) := by decide +kernel
theorem d_M_weight_36 : decode b_M_weight 36 = .ok (.iload_n 1, 1) := by decide +kernel
theorem d_M_weight_37 : decode b_M_weight 37 = .ok (.iconst 2, 1) := by decide +kernel
theorem d_M_weight_38 : decode b_M_weight 38 = .ok (.iastore, 1) := by decide +kernel
theorem d_M_weight_39 : decode b_M_weight 39 = .ok (.aload_n 0, 1) := by decide +kernel
theorem d_M_weight_40 : decode b_M_weight 40 = .ok (.invokevirtual 87, 3) := by decide +kernel
theorem d_M_weight_43 : decode b_M_weight 43 = .ok (.aload_n 0, 1) := by decide +kernel
theorem d_M_weight_44 : decode b_M_weight 44 = .ok (.invokevirtual 93, 3) := by decide +kernel
theorem d_M_weight_47 : decode b_M_weight 47 = .ok (.lstore_n 3, 1) := by decide +kernel
theorem d_M_weight_48 : decode b_M_weight 48 = .ok (.aload_n 0, 1) := by decide +kernel
theorem d_M_weight_49 : decode b_M_weight 49 = .ok (.getfield 13, 3) := by decide +kernel
theorem d_M_weight_52 : decode b_M_weight 52 = .ok (.iload_n 1, 1) := by decide +kernel
theorem d_M_weight_53 : decode b_M_weight 53 = .ok (.iconst 1, 1) := by decide +kernel
theorem d_M_weight_54 : decode b_M_weight 54 = .ok (.iastore, 1) := by decide +kernel
theorem d_M_weight_55 : decode b_M_weight 55 = .ok (.aload_n 0, 1) := by decide +kernel
theorem d_M_weight_56 : decode b_M_weight 56 = .ok (.invokevirtual 87, 3) := by decide +kernel
theorem d_M_weight_59 : decode b_M_weight 59 = .ok (.lload_n 3, 1) := by decide +kernel
theorem d_M_weight_60 : decode b_M_weight 60 = .ok (.aload_n 0, 1) := by decide +kernel
theorem d_M_weight_61 : decode b_M_weight 61 = .ok (.invokevirtual 93, 3) := by decide +kernel
theorem d_M_weight_64 : decode b_M_weight 64 = .ok (.lsub, 1) := by decide +kernel
theorem d_M_weight_65 : decode b_M_weight 65 = .ok (.lstore_n 3, 1) := by decide +kernel
theorem d_M_weight_66 : decode b_M_weight 66 = .ok (.aload_n 0, 1) := by decide +kernel
theorem d_M_weight_67 : decode b_M_weight 67 = .ok (.getfield 13, 3) := by decide +kernel
theorem d_M_weight_70 : decode b_M_weight 70 = .ok (.iload_n 1, 1) := by decide +kernel
theorem d_M_weight_71 : decode b_M_weight 71 = .ok (.iload_n 2, 1) := by decide +kernel
theorem d_M_weight_72 : decode b_M_weight 72 = .ok (.iastore, 1) := by decide +kernel
theorem d_M_weight_73 : decode b_M_weight 73 = .ok (.lload_n 3, 1) := by decide +kernel
theorem d_M_weight_74 : decode b_M_weight 74 = .ok (.lreturn, 1) := by decide +kernel
def rm_M_weight : Room := { frames := 4, cells := 0, slots := 0, locals := 93 }
def f_M_weight (fu : Nat) (v0 : Nat) (v1 : Int32) (w : List va_E) : Option (Int64 × List va_E) := ((hp_is w v0 7).bind fun _ => ((f_M_isEvent fu v0 v1 w).bind fun r1 => (if r1.1 = 0 then ((hp_pi r1.2 v0 7 0 (1 : Int32)).bind fun w15 => (some ((0 : Int64), w15))) else ((hp_is r1.2 v0 7).bind fun _ => ((f_M_lacks fu v0 (2 : Int32) r1.2).bind fun r2 => (if r2.1 = 0 then ((hp_gr r2.2 v0 7 3).bind fun q3 => ((hp_ri r2.2 q3 v1).bind fun x4 => ((hp_gr r2.2 v0 7 3).bind fun q5 => ((hp_wi r2.2 q5 v1 (2 : Int32)).bind fun w6 => ((hp_is w6 v0 7).bind fun _ => ((f_M_work fu v0 w6).bind fun r7 => ((hp_is r7 v0 7).bind fun _ => ((f_M_sum fu v0 r7).bind fun r8 => ((hp_gr r8.2 v0 7 3).bind fun q9 => ((hp_wi r8.2 q9 v1 (1 : Int32)).bind fun w10 => ((hp_is w10 v0 7).bind fun _ => ((f_M_work fu v0 w10).bind fun r11 => ((hp_is r11 v0 7).bind fun _ => ((f_M_sum fu v0 r11).bind fun r12 => ((hp_gr r12.2 v0 7 3).bind fun q13 => ((hp_wi r12.2 q13 v1 x4).bind fun w14 => (some ((r8.1 - r12.1), w14)))))))))))))))))) else (some ((0 : Int64), r2.2))))))))
section
variable {p : Program} {l : Launch} {e : Env} {s : State} {m : MethodId} {args : Array Value} {below : List Frame} {meth : Method} {c : Code} {D : va_G} {ca : Nat → Nat} {A : Nat → Prop} {ad : Nat → Nat}
set_option maxRecDepth 100000 in
set_option maxHeartbeats 4000000 in
theorem v_M_weight (K : av_K p s m args meth c D cl8 ca A b_M_weight 5 R_M WS) (G : av_G NS tabON A s s.heap) (hr : meth.sig.returnType = some .long) (fu : Nat) {r : Int64 × List va_E} (v0 : Nat) (v1 : Int32) (w : List va_E) (h : f_M_weight fu v0 v1 w = some r) : av_VL p l e rm_M_weight s m args below meth c D cl8 A ad ca 5 r 0 [some (.ref v0), some (.int v1), none, none, none] [] w := by
  unfold f_M_weight at h
  refine av_aload_n K d_M_weight_0 rfl rfl ?_
  refine av_iload_n K d_M_weight_1 rfl rfl ?_
  obtain ⟨_, eo2, h⟩ := hp_bd h
  obtain ⟨r1, er1, h⟩ := hp_bd h
  obtain ⟨fs2, ho2⟩ := hp_is_of eo2
  refine av_cVi K G (c_M_isEvent (tab := tabON) er1) (cwV 1 K.2.2.2.2.1 (gV ml_M_67 im_M_isEvent se_M_isEvent in_M co_M_isEvent) rfl rfl rfl cd_M_isEvent ⟨Nat.le_of_ble_eq_true rfl, Nat.le_of_ble_eq_true rfl⟩) rfl ho2 rfl rfl (Nat.le_of_ble_eq_true rfl) d_M_weight_2 ⟨Nat.zero_le _, Nat.zero_le _⟩ (fun a9 u9 h9 => ?_)
  obtain ⟨rfl, rfl⟩ : a9 = r1.1 ∧ u9 = r1.2 := ⟨congrArg Prod.fst h9, congrArg Prod.snd h9⟩
  refine av_if_ne (tgt := 15) K d_M_weight_5 rfl (fun hc => ?_) (fun hc => ?_)
  · rw [if_neg hc] at h
    refine av_aload_n K d_M_weight_15 rfl rfl ?_
    refine av_iconst (v := (2 : Int32)) K d_M_weight_16 (by decide) ?_
    obtain ⟨_, eo17, h⟩ := hp_bd h
    obtain ⟨r2, er2, h⟩ := hp_bd h
    obtain ⟨fs17, ho17⟩ := hp_is_of eo17
    refine av_cVi K G (c_M_lacks (tab := tabON) er2) (cwV 1 K.2.2.2.2.1 (gV ml_M_90 im_M_lacks se_M_lacks in_M co_M_lacks) rfl rfl rfl cd_M_lacks ⟨Nat.le_of_ble_eq_true rfl, Nat.le_of_ble_eq_true rfl⟩) rfl ho17 rfl rfl (Nat.le_of_ble_eq_true rfl) d_M_weight_17 ⟨Nat.zero_le _, Nat.zero_le _⟩ (fun a9 u9 h9 => ?_)
    obtain ⟨rfl, rfl⟩ : a9 = r2.1 ∧ u9 = r2.2 := ⟨congrArg Prod.fst h9, congrArg Prod.snd h9⟩
    refine av_if_eq (tgt := 25) K d_M_weight_20 rfl (fun hc => ?_) (fun hc => ?_)
    · rw [if_pos hc] at h
      refine av_aload_n K d_M_weight_25 rfl rfl ?_
      obtain ⟨q3, eq3, h⟩ := hp_bd h
      refine hv_gr K fl_M_13 d_M_weight_26 eq3 ?_
      refine av_iload_n K d_M_weight_29 rfl rfl ?_
      obtain ⟨x4, ex4, h⟩ := hp_bd h
      refine hv_ri K d_M_weight_30 ex4 ?_
      refine av_istore_n (L' := [some (.ref v0), some (.int v1), some (.int x4), none, none]) K d_M_weight_31 rfl (Nat.le_of_ble_eq_true rfl) rfl ?_
      refine av_aload_n K d_M_weight_32 rfl rfl ?_
      obtain ⟨q5, eq5, h⟩ := hp_bd h
      refine hv_gr K fl_M_13 d_M_weight_33 eq5 ?_
      refine av_iload_n K d_M_weight_36 rfl rfl ?_
      refine av_iconst (v := (2 : Int32)) K d_M_weight_37 (by decide) ?_
      obtain ⟨w6, ew6, h⟩ := hp_bd h
      refine hv_wi K d_M_weight_38 ew6 ?_
      refine av_aload_n K d_M_weight_39 rfl rfl ?_
      obtain ⟨_, eo40, h⟩ := hp_bd h
      obtain ⟨r7, er7, h⟩ := hp_bd h
      obtain ⟨fs40, ho40⟩ := hp_is_of eo40
      refine av_cVv K G (c_M_work (tab := tabON) er7) (cwV 0 K.2.2.2.2.1 (gV ml_M_87 im_M_work se_M_work in_M co_M_work) rfl rfl rfl cd_M_work ⟨Nat.le_of_ble_eq_true rfl, Nat.le_of_ble_eq_true rfl⟩) rfl ho40 rfl rfl (Nat.le_of_ble_eq_true rfl) d_M_weight_40 ⟨Nat.zero_le _, Nat.zero_le _⟩ (fun u9 h9 => ?_)
      subst h9
      refine av_aload_n K d_M_weight_43 rfl rfl ?_
      obtain ⟨_, eo44, h⟩ := hp_bd h
      obtain ⟨r8, er8, h⟩ := hp_bd h
      obtain ⟨fs44, ho44⟩ := hp_is_of eo44
      refine av_cVl K G (c_M_sum (tab := tabON) er8) (cwV 0 K.2.2.2.2.1 (gV ml_M_93 im_M_sum se_M_sum in_M co_M_sum) rfl rfl rfl cd_M_sum ⟨Nat.le_of_ble_eq_true rfl, Nat.le_of_ble_eq_true rfl⟩) rfl ho44 rfl rfl (Nat.le_of_ble_eq_true rfl) d_M_weight_44 ⟨Nat.zero_le _, Nat.zero_le _⟩ (fun a9 u9 h9 => ?_)
      obtain ⟨rfl, rfl⟩ : a9 = r8.1 ∧ u9 = r8.2 := ⟨congrArg Prod.fst h9, congrArg Prod.snd h9⟩
      refine av_lstore_n (L' := [some (.ref v0), some (.int v1), some (.int x4), some (.long r8.1), none]) K d_M_weight_47 rfl (Nat.le_of_ble_eq_true rfl) rfl ?_
      refine av_aload_n K d_M_weight_48 rfl rfl ?_
      obtain ⟨q9, eq9, h⟩ := hp_bd h
      refine hv_gr K fl_M_13 d_M_weight_49 eq9 ?_
      refine av_iload_n K d_M_weight_52 rfl rfl ?_
      refine av_iconst (v := (1 : Int32)) K d_M_weight_53 (by decide) ?_
      obtain ⟨w10, ew10, h⟩ := hp_bd h
      refine hv_wi K d_M_weight_54 ew10 ?_
      refine av_aload_n K d_M_weight_55 rfl rfl ?_
      obtain ⟨_, eo56, h⟩ := hp_bd h
      obtain ⟨r11, er11, h⟩ := hp_bd h
      obtain ⟨fs56, ho56⟩ := hp_is_of eo56
      refine av_cVv K G (c_M_work (tab := tabON) er11) (cwV 0 K.2.2.2.2.1 (gV ml_M_87 im_M_work se_M_work in_M co_M_work) rfl rfl rfl cd_M_work ⟨Nat.le_of_ble_eq_true rfl, Nat.le_of_ble_eq_true rfl⟩) rfl ho56 rfl rfl (Nat.le_of_ble_eq_true rfl) d_M_weight_56 ⟨Nat.zero_le _, Nat.zero_le _⟩ (fun u9 h9 => ?_)
      subst h9
      refine av_lload_n K d_M_weight_59 rfl rfl ?_
      refine av_aload_n K d_M_weight_60 rfl rfl ?_
      obtain ⟨_, eo61, h⟩ := hp_bd h
      obtain ⟨r12, er12, h⟩ := hp_bd h
      obtain ⟨fs61, ho61⟩ := hp_is_of eo61
      refine av_cVl K G (c_M_sum (tab := tabON) er12) (cwV 0 K.2.2.2.2.1 (gV ml_M_93 im_M_sum se_M_sum in_M co_M_sum) rfl rfl rfl cd_M_sum ⟨Nat.le_of_ble_eq_true rfl, Nat.le_of_ble_eq_true rfl⟩) rfl ho61 rfl rfl (Nat.le_of_ble_eq_true rfl) d_M_weight_61 ⟨Nat.zero_le _, Nat.zero_le _⟩ (fun a9 u9 h9 => ?_)
      obtain ⟨rfl, rfl⟩ : a9 = r12.1 ∧ u9 = r12.2 := ⟨congrArg Prod.fst h9, congrArg Prod.snd h9⟩
      refine av_lsub K d_M_weight_64 ?_
      refine av_lstore_n (L' := [some (.ref v0), some (.int v1), some (.int x4), some (.long (r8.1 - r12.1)), none]) K d_M_weight_65 rfl (Nat.le_of_ble_eq_true rfl) rfl ?_
      refine av_aload_n K d_M_weight_66 rfl rfl ?_
      obtain ⟨q13, eq13, h⟩ := hp_bd h
      refine hv_gr K fl_M_13 d_M_weight_67 eq13 ?_
      refine av_iload_n K d_M_weight_70 rfl rfl ?_
      refine av_iload_n K d_M_weight_71 rfl rfl ?_
      obtain ⟨w14, ew14, h⟩ := hp_bd h
      refine hv_wi K d_M_weight_72 ew14 ?_
      refine av_lload_n K d_M_weight_73 rfl rfl ?_
      obtain rfl := Option.some.inj h
      exact av_lreturn K hr d_M_weight_74 rfl
    · rw [if_neg hc] at h
      refine av_lconst (v := (0 : Int64)) K d_M_weight_23 (by decide) ?_
      obtain rfl := Option.some.inj h
      exact av_lreturn K hr d_M_weight_24 rfl
  · rw [if_pos hc] at h
    refine av_aload_n K d_M_weight_8 rfl rfl ?_
    refine av_iconst (v := (1 : Int32)) K d_M_weight_9 (by decide) ?_
    obtain ⟨w15, ew15, h⟩ := hp_bd h
    refine hv_pi K fp_M_58 d_M_weight_10 ew15 ?_
    refine av_lconst (v := (0 : Int64)) K d_M_weight_13 (by decide) ?_
    obtain rfl := Option.some.inj h
    exact av_lreturn K hr d_M_weight_14 rfl
end
set_option maxRecDepth 100000 in
theorem c_M_weight {l : Launch} {D : va_G} {ca : Nat → Nat} {tab : Nat → Int64} {fu : Nat} {v0 : Nat} {v1 : Int32} {w : List va_E} {r : Int64 × List va_E} (h : f_M_weight fu v0 v1 w = some r) : av_Cl l D cl8 ca NS tabON y_M_weight w_M_weight rm_M_weight [.ref v0, .int v1] w (fun v u => (v, u) = r) :=
  av_inL (cc := b_M_weight) (nL := 5) (by decide +kernel) rfl (Nat.le_of_ble_eq_true rfl) (fun p e s m args below meth c A ad K G hr => v_M_weight K G hr fu v0 v1 w h)

-- FaultTreeDeskModel.alike(III)Z
theorem d_M_alike_0 : decode b_M_alike 0 = .ok (.iconst 1, 1) := by decide +kernel
theorem d_M_alike_1 : decode b_M_alike 1 = .ok (.istore 4, 2) := by decide +kernel
theorem d_M_alike_3 : decode b_M_alike 3 = .ok (.iconst 0, 1) := by decide +kernel
theorem d_M_alike_4 : decode b_M_alike 4 = .ok (.istore 5, 2) := by decide +kernel
theorem d_M_alike_6 : decode b_M_alike 6 = .ok (.iload 5, 2) := by decide +kernel
theorem d_M_alike_8 : decode b_M_alike 8 = .ok (.iconst 2, 1) := by decide +kernel
theorem d_M_alike_9 : decode b_M_alike 9 = .ok (.iload_n 1, 1) := by decide +kernel
theorem d_M_alike_10 : decode b_M_alike 10 = .ok (.ishl, 1) := by decide +kernel
theorem d_M_alike_11 : decode b_M_alike 11 = .ok (.if_icmp .ge 50, 3) := by decide +kernel
theorem d_M_alike_14 : decode b_M_alike 14 = .ok (.iload 4, 2) := by decide +kernel
theorem d_M_alike_16 : decode b_M_alike 16 = .ok (.ifCond .eq 45, 3) := by decide +kernel
theorem d_M_alike_19 : decode b_M_alike 19 = .ok (.aload_n 0, 1) := by decide +kernel
theorem d_M_alike_20 : decode b_M_alike 20 = .ok (.getfield 45, 3) := by decide +kernel
theorem d_M_alike_23 : decode b_M_alike 23 = .ok (.iload_n 2, 1) := by decide +kernel
theorem d_M_alike_24 : decode b_M_alike 24 = .ok (.iload_n 1, 1) := by decide +kernel
theorem d_M_alike_25 : decode b_M_alike 25 = .ok (.iconst 1, 1) := by decide +kernel
theorem d_M_alike_26 : decode b_M_alike 26 = .ok (.iadd, 1) := by decide +kernel
theorem d_M_alike_27 : decode b_M_alike 27 = .ok (.ishl, 1) := by decide +kernel
theorem d_M_alike_28 : decode b_M_alike 28 = .ok (.iload 5, 2) := by decide +kernel
theorem d_M_alike_30 : decode b_M_alike 30 = .ok (.iadd, 1) := by decide +kernel
theorem d_M_alike_31 : decode b_M_alike 31 = .ok (.baload, 1) := by decide +kernel
theorem d_M_alike_32 : decode b_M_alike 32 = .ok (.aload_n 0, 1) := by decide +kernel
theorem d_M_alike_33 : decode b_M_alike 33 = .ok (.getfield 45, 3) := by decide +kernel
theorem d_M_alike_36 : decode b_M_alike 36 = .ok (.iload_n 3, 1) := by decide +kernel
theorem d_M_alike_37 : decode b_M_alike 37 = .ok (.iload_n 1, 1) := by decide +kernel
theorem d_M_alike_38 : decode b_M_alike 38 = .ok (.iconst 1, 1) := by decide +kernel
theorem d_M_alike_39 : decode b_M_alike 39 = .ok (.iadd, 1) := by decide +kernel
theorem d_M_alike_40 : decode b_M_alike 40 = .ok (.ishl, 1) := by decide +kernel
theorem d_M_alike_41 : decode b_M_alike 41 = .ok (.iload 5, 2) := by decide +kernel
theorem d_M_alike_43 : decode b_M_alike 43 = .ok (.iadd, 1) := by decide +kernel
theorem d_M_alike_44 : decode b_M_alike 44 = .ok (.baload, 1) := by decide +kernel
theorem d_M_alike_45 : decode b_M_alike 45 = .ok (.if_icmp .ne 7, 3) := by decide +kernel
theorem d_M_alike_48 : decode b_M_alike 48 = .ok (.iconst 1, 1) := by decide +kernel
theorem d_M_alike_49 : decode b_M_alike 49 = .ok (.goto 4, 3) := by decide +kernel
theorem d_M_alike_52 : decode b_M_alike 52 = .ok (.iconst 0, 1) := by decide +kernel
theorem d_M_alike_53 : decode b_M_alike 53 = .ok (.istore 4, 2) := by decide +kernel
theorem d_M_alike_55 : decode b_M_alike 55 = .ok (.iinc 5 1, 3) := by decide +kernel
theorem d_M_alike_58 : decode b_M_alike 58 = .ok (.goto (-52), 3) := by decide +kernel
theorem d_M_alike_61 : decode b_M_alike 61 = .ok (.iload 4, 2) := by decide +kernel
theorem d_M_alike_63 : decode b_M_alike 63 = .ok (.ireturn, 1) := by decide +kernel
def rm_M_alike : Room := { frames := 0, cells := 0, slots := 0, locals := 0 }
def f_M_alike_53 (fu : Nat) (k6 : Nat → Int32 → Int32 → Int32 → Int32 → Int32 → List va_E → Option (Int32 × List va_E)) (v0 : Nat) (v1 : Int32) (v2 : Int32) (v3 : Int32) (v5 : Int32) (s0 : Int32) (w : List va_E) : Option (Int32 × List va_E) := (k6 (v0) (v1) (v2) (v3) (s0) ((v5 + (1 : Int32))) w)
def f_M_alike_61 (fu : Nat) (v4 : Int32) (w : List va_E) : Option (Int32 × List va_E) := (if v4 = 0 ∨ v4 = 1 then some (v4, w) else none)
def f_M_alike_6 (fu : Nat) : Nat → Nat → Int32 → Int32 → Int32 → Int32 → Int32 → List va_E → Option (Int32 × List va_E)
  | 0, _, _, _, _, _, _, _ => none
  | n + 1, v0, v1, v2, v3, v4, v5, w => (if ((2 : Int32) <<< (v1 &&& 31)) ≤ v5 then (f_M_alike_61 fu (v4) w) else (if v4 = 0 then (f_M_alike_61 fu (v4) w) else ((hp_gr w v0 7 14).bind fun q1 => ((hp_rz w q1 ((v2 <<< ((v1 + (1 : Int32)) &&& 31)) + v5)).bind fun x2 => ((hp_gr w v0 7 14).bind fun q3 => ((hp_rz w q3 ((v3 <<< ((v1 + (1 : Int32)) &&& 31)) + v5)).bind fun x4 => (if x2 = x4 then (f_M_alike_53 fu (f_M_alike_6 fu n) (v0) (v1) (v2) (v3) (v5) ((1 : Int32)) w) else (f_M_alike_53 fu (f_M_alike_6 fu n) (v0) (v1) (v2) (v3) (v5) ((0 : Int32)) w))))))))
def f_M_alike (fu : Nat) (v0 : Nat) (v1 : Int32) (v2 : Int32) (v3 : Int32) (w : List va_E) : Option (Int32 × List va_E) := (f_M_alike_6 fu fu (v0) (v1) (v2) (v3) ((1 : Int32)) ((0 : Int32)) w)
section
variable {p : Program} {l : Launch} {e : Env} {s : State} {m : MethodId} {args : Array Value} {below : List Frame} {meth : Method} {c : Code} {D : va_G} {ca : Nat → Nat} {A : Nat → Prop} {ad : Nat → Nat}
set_option maxRecDepth 100000 in
set_option maxHeartbeats 4000000 in
theorem v_M_alike_53 (K : av_K p s m args meth c D cl8 ca A b_M_alike 6 R_M WS) (G : av_G NS tabON A s s.heap) (hr : meth.sig.returnType = some .boolean) (fu : Nat) {r : Int32 × List va_E} (k6 : Nat → Int32 → Int32 → Int32 → Int32 → Int32 → List va_E → Option (Int32 × List va_E)) (hk6 : ∀ (v0 : Nat) (v1 : Int32) (v2 : Int32) (v3 : Int32) (v4 : Int32) (v5 : Int32) (w : List va_E), k6 v0 v1 v2 v3 v4 v5 w = some r → av_VI p l e rm_M_alike s m args below meth c D cl8 A ad ca 6 r 6 [some (.ref v0), some (.int v1), some (.int v2), some (.int v3), some (.int v4), some (.int v5)] [] w) (v0 : Nat) (v1 : Int32) (v2 : Int32) (v3 : Int32) (v5 : Int32) (s0 : Int32) (w : List va_E) (h : f_M_alike_53 fu k6 v0 v1 v2 v3 v5 s0 w = some r) : av_VI p l e rm_M_alike s m args below meth c D cl8 A ad ca 6 r 53 [some (.ref v0), some (.int v1), some (.int v2), some (.int v3), none, some (.int v5)] [.int s0] w := by
  unfold f_M_alike_53 at h
  refine av_istore (L' := [some (.ref v0), some (.int v1), some (.int v2), some (.int v3), some (.int s0), some (.int v5)]) K d_M_alike_53 (Nat.le_of_ble_eq_true rfl) rfl ?_
  refine av_iinc (v := (v5 + (1 : Int32))) (L' := [some (.ref v0), some (.int v1), some (.int v2), some (.int v3), some (.int s0), some (.int (v5 + (1 : Int32)))]) K d_M_alike_55 rfl (congrArg (fun z => v5 + z) (show Int32.ofInt 1 = (1 : Int32) by decide)) (Nat.le_of_ble_eq_true rfl) rfl ?_
  refine av_goto (tgt := 6) K d_M_alike_58 rfl ?_
  exact hk6 (v0) (v1) (v2) (v3) (s0) ((v5 + (1 : Int32))) _ h
set_option maxRecDepth 100000 in
set_option maxHeartbeats 4000000 in
theorem v_M_alike_61 (K : av_K p s m args meth c D cl8 ca A b_M_alike 6 R_M WS) (G : av_G NS tabON A s s.heap) (hr : meth.sig.returnType = some .boolean) (fu : Nat) {r : Int32 × List va_E} (v4 : Int32) (w : List va_E) (h : f_M_alike_61 fu v4 w = some r) : av_VI p l e rm_M_alike s m args below meth c D cl8 A ad ca 6 r 61 [none, none, none, none, some (.int v4), none] [] w := by
  unfold f_M_alike_61 at h
  refine av_iload K d_M_alike_61 rfl ?_
  obtain ⟨hz, h⟩ := hp_if h
  obtain rfl := Option.some.inj h
  exact av_zreturn K hr (hp_nz hz) d_M_alike_63 rfl
set_option maxRecDepth 100000 in
set_option maxHeartbeats 4000000 in
theorem v_M_alike_6 (K : av_K p s m args meth c D cl8 ca A b_M_alike 6 R_M WS) (G : av_G NS tabON A s s.heap) (hr : meth.sig.returnType = some .boolean) (fu : Nat) {r : Int32 × List va_E} : ∀ (n : Nat) (v0 : Nat) (v1 : Int32) (v2 : Int32) (v3 : Int32) (v4 : Int32) (v5 : Int32) (w : List va_E), f_M_alike_6 fu n v0 v1 v2 v3 v4 v5 w = some r → av_VI p l e rm_M_alike s m args below meth c D cl8 A ad ca 6 r 6 [some (.ref v0), some (.int v1), some (.int v2), some (.int v3), some (.int v4), some (.int v5)] [] w := by
  intro n
  induction n with
  | zero => intro _ _ _ _ _ _ _ h; cases h
  | succ n ih =>
    intro v0 v1 v2 v3 v4 v5 w h
    unfold f_M_alike_6 at h
    refine av_iload K d_M_alike_6 rfl ?_
    refine av_iconst (v := (2 : Int32)) K d_M_alike_8 (by decide) ?_
    refine av_iload_n K d_M_alike_9 rfl rfl ?_
    refine av_ishl K d_M_alike_10 ?_
    refine av_icmp_ge (tgt := 61) K d_M_alike_11 rfl (fun hc => ?_) (fun hc => ?_)
    · rw [if_pos hc] at h
      refine hv_fg (L' := [none, none, none, none, some (.int v4), none]) [0, 1, 2, 3, 5] rfl ?_
      exact v_M_alike_61 K G hr fu (v4) _ h
    · rw [if_neg hc] at h
      refine av_iload K d_M_alike_14 rfl ?_
      refine av_if_eq (tgt := 61) K d_M_alike_16 rfl (fun hc => ?_) (fun hc => ?_)
      · rw [if_pos hc] at h
        refine hv_fg (L' := [none, none, none, none, some (.int v4), none]) [0, 1, 2, 3, 5] rfl ?_
        exact v_M_alike_61 K G hr fu (v4) _ h
      · rw [if_neg hc] at h
        refine av_aload_n K d_M_alike_19 rfl rfl ?_
        obtain ⟨q1, eq1, h⟩ := hp_bd h
        refine hv_gr K fl_M_45 d_M_alike_20 eq1 ?_
        refine av_iload_n K d_M_alike_23 rfl rfl ?_
        refine av_iload_n K d_M_alike_24 rfl rfl ?_
        refine av_iconst (v := (1 : Int32)) K d_M_alike_25 (by decide) ?_
        refine av_iadd K d_M_alike_26 ?_
        refine av_ishl K d_M_alike_27 ?_
        refine av_iload K d_M_alike_28 rfl ?_
        refine av_iadd K d_M_alike_30 ?_
        obtain ⟨x2, ex2, h⟩ := hp_bd h
        refine hv_rz K d_M_alike_31 ex2 ?_
        refine av_aload_n K d_M_alike_32 rfl rfl ?_
        obtain ⟨q3, eq3, h⟩ := hp_bd h
        refine hv_gr K fl_M_45 d_M_alike_33 eq3 ?_
        refine av_iload_n K d_M_alike_36 rfl rfl ?_
        refine av_iload_n K d_M_alike_37 rfl rfl ?_
        refine av_iconst (v := (1 : Int32)) K d_M_alike_38 (by decide) ?_
        refine av_iadd K d_M_alike_39 ?_
        refine av_ishl K d_M_alike_40 ?_
        refine av_iload K d_M_alike_41 rfl ?_
        refine av_iadd K d_M_alike_43 ?_
        obtain ⟨x4, ex4, h⟩ := hp_bd h
        refine hv_rz K d_M_alike_44 ex4 ?_
        refine av_icmp_ne (tgt := 52) K d_M_alike_45 rfl (fun hc => ?_) (fun hc => ?_)
        · rw [if_neg hc] at h
          refine av_iconst (v := (0 : Int32)) K d_M_alike_52 (by decide) ?_
          refine hv_fg (L' := [some (.ref v0), some (.int v1), some (.int v2), some (.int v3), none, some (.int v5)]) [4] rfl ?_
          exact v_M_alike_53 K G hr fu (f_M_alike_6 fu n) ih (v0) (v1) (v2) (v3) (v5) ((0 : Int32)) _ h
        · rw [if_pos hc] at h
          refine av_iconst (v := (1 : Int32)) K d_M_alike_48 (by decide) ?_
          refine av_goto (tgt := 53) K d_M_alike_49 rfl ?_
          refine hv_fg (L' := [some (.ref v0), some (.int v1), some (.int v2), some (.int v3), none, some (.int v5)]) [4] rfl ?_
          exact v_M_alike_53 K G hr fu (f_M_alike_6 fu n) ih (v0) (v1) (v2) (v3) (v5) ((1 : Int32)) _ h
set_option maxRecDepth 100000 in
set_option maxHeartbeats 4000000 in
theorem v_M_alike (K : av_K p s m args meth c D cl8 ca A b_M_alike 6 R_M WS) (G : av_G NS tabON A s s.heap) (hr : meth.sig.returnType = some .boolean) (fu : Nat) {r : Int32 × List va_E} (v0 : Nat) (v1 : Int32) (v2 : Int32) (v3 : Int32) (w : List va_E) (h : f_M_alike fu v0 v1 v2 v3 w = some r) : av_VI p l e rm_M_alike s m args below meth c D cl8 A ad ca 6 r 0 [some (.ref v0), some (.int v1), some (.int v2), some (.int v3), none, none] [] w := by
  unfold f_M_alike at h
  refine av_iconst (v := (1 : Int32)) K d_M_alike_0 (by decide) ?_
  refine av_istore (L' := [some (.ref v0), some (.int v1), some (.int v2), some (.int v3), some (.int (1 : Int32)), none]) K d_M_alike_1 (Nat.le_of_ble_eq_true rfl) rfl ?_
  refine av_iconst (v := (0 : Int32)) K d_M_alike_3 (by decide) ?_
  refine av_istore (L' := [some (.ref v0), some (.int v1), some (.int v2), some (.int v3), some (.int (1 : Int32)), some (.int (0 : Int32))]) K d_M_alike_4 (Nat.le_of_ble_eq_true rfl) rfl ?_
  exact v_M_alike_6 K G hr fu fu (v0) (v1) (v2) (v3) ((1 : Int32)) ((0 : Int32)) _ h
end
set_option maxRecDepth 100000 in
theorem c_M_alike {l : Launch} {D : va_G} {ca : Nat → Nat} {tab : Nat → Int64} {fu : Nat} {v0 : Nat} {v1 : Int32} {v2 : Int32} {v3 : Int32} {w : List va_E} {r : Int32 × List va_E} (h : f_M_alike fu v0 v1 v2 v3 w = some r) : av_Ci l D cl8 ca NS tabON y_M_alike w_M_alike rm_M_alike [.ref v0, .int v1, .int v2, .int v3] w (fun v u => (v, u) = r) :=
  av_inI (cc := b_M_alike) (nL := 6) (by decide +kernel) rfl (Nat.le_of_ble_eq_true rfl) (fun p e s m args below meth c A ad K G hr => v_M_alike K G hr fu v0 v1 v2 v3 w h)

-- FaultTreeDeskModel.matters(II)Z
theorem d_M_matters_0 : decode b_M_matters 0 = .ok (.iconst 0, 1) := by decide +kernel
theorem d_M_matters_1 : decode b_M_matters 1 = .ok (.istore_n 3, 1) := by decide +kernel
theorem d_M_matters_2 : decode b_M_matters 2 = .ok (.iconst 0, 1) := by decide +kernel
theorem d_M_matters_3 : decode b_M_matters 3 = .ok (.istore 4, 2) := by decide +kernel
theorem d_M_matters_5 : decode b_M_matters 5 = .ok (.iload 4, 2) := by decide +kernel
theorem d_M_matters_7 : decode b_M_matters 7 = .ok (.iconst 1, 1) := by decide +kernel
theorem d_M_matters_8 : decode b_M_matters 8 = .ok (.iload_n 1, 1) := by decide +kernel
theorem d_M_matters_9 : decode b_M_matters 9 = .ok (.ishl, 1) := by decide +kernel
theorem d_M_matters_10 : decode b_M_matters 10 = .ok (.if_icmp .ge 52, 3) := by decide +kernel
theorem d_M_matters_13 : decode b_M_matters 13 = .ok (.iload_n 3, 1) := by decide +kernel
theorem d_M_matters_14 : decode b_M_matters 14 = .ok (.ifCond .ne 36, 3) := by decide +kernel
theorem d_M_matters_17 : decode b_M_matters 17 = .ok (.aload_n 0, 1) := by decide +kernel
theorem d_M_matters_18 : decode b_M_matters 18 = .ok (.getfield 45, 3) := by decide +kernel
theorem d_M_matters_21 : decode b_M_matters 21 = .ok (.iload_n 2, 1) := by decide +kernel
theorem d_M_matters_22 : decode b_M_matters 22 = .ok (.iload_n 1, 1) := by decide +kernel
theorem d_M_matters_23 : decode b_M_matters 23 = .ok (.iconst 1, 1) := by decide +kernel
theorem d_M_matters_24 : decode b_M_matters 24 = .ok (.iadd, 1) := by decide +kernel
theorem d_M_matters_25 : decode b_M_matters 25 = .ok (.ishl, 1) := by decide +kernel
theorem d_M_matters_26 : decode b_M_matters 26 = .ok (.iload 4, 2) := by decide +kernel
theorem d_M_matters_28 : decode b_M_matters 28 = .ok (.iadd, 1) := by decide +kernel
theorem d_M_matters_29 : decode b_M_matters 29 = .ok (.baload, 1) := by decide +kernel
theorem d_M_matters_30 : decode b_M_matters 30 = .ok (.aload_n 0, 1) := by decide +kernel
theorem d_M_matters_31 : decode b_M_matters 31 = .ok (.getfield 45, 3) := by decide +kernel
theorem d_M_matters_34 : decode b_M_matters 34 = .ok (.iload_n 2, 1) := by decide +kernel
theorem d_M_matters_35 : decode b_M_matters 35 = .ok (.iload_n 1, 1) := by decide +kernel
theorem d_M_matters_36 : decode b_M_matters 36 = .ok (.iconst 1, 1) := by decide +kernel
theorem d_M_matters_37 : decode b_M_matters 37 = .ok (.iadd, 1) := by decide +kernel
theorem d_M_matters_38 : decode b_M_matters 38 = .ok (.ishl, 1) := by decide +kernel
theorem d_M_matters_39 : decode b_M_matters 39 = .ok (.iconst 1, 1) := by decide +kernel
theorem d_M_matters_40 : decode b_M_matters 40 = .ok (.iload_n 1, 1) := by decide +kernel
theorem d_M_matters_41 : decode b_M_matters 41 = .ok (.ishl, 1) := by decide +kernel
theorem d_M_matters_42 : decode b_M_matters 42 = .ok (.iadd, 1) := by decide +kernel
theorem d_M_matters_43 : decode b_M_matters 43 = .ok (.iload 4, 2) := by decide +kernel
theorem d_M_matters_45 : decode b_M_matters 45 = .ok (.iadd, 1) := by decide +kernel
theorem d_M_matters_46 : decode b_M_matters 46 = .ok (.baload, 1) := by decide +kernel
theorem d_M_matters_47 : decode b_M_matters 47 = .ok (.if_icmp .eq 7, 3) := by decide +kernel
theorem d_M_matters_50 : decode b_M_matters 50 = .ok (.iconst 1, 1) := by decide +kernel
theorem d_M_matters_51 : decode b_M_matters 51 = .ok (.goto 4, 3) := by decide +kernel
theorem d_M_matters_54 : decode b_M_matters 54 = .ok (.iconst 0, 1) := by decide +kernel
theorem d_M_matters_55 : decode b_M_matters 55 = .ok (.istore_n 3, 1) := by decide +kernel
theorem d_M_matters_56 : decode b_M_matters 56 = .ok (.iinc 4 1, 3) := by decide +kernel
theorem d_M_matters_59 : decode b_M_matters 59 = .ok (.goto (-54), 3) := by decide +kernel
theorem d_M_matters_62 : decode b_M_matters 62 = .ok (.iload_n 3, 1) := by decide +kernel
theorem d_M_matters_63 : decode b_M_matters 63 = .ok (.ireturn, 1) := by decide +kernel
def rm_M_matters : Room := { frames := 0, cells := 0, slots := 0, locals := 0 }
def f_M_matters_55 (fu : Nat) (k5 : Nat → Int32 → Int32 → Int32 → Int32 → List va_E → Option (Int32 × List va_E)) (v0 : Nat) (v1 : Int32) (v2 : Int32) (v4 : Int32) (s0 : Int32) (w : List va_E) : Option (Int32 × List va_E) := (k5 (v0) (v1) (v2) (s0) ((v4 + (1 : Int32))) w)
def f_M_matters_50 (fu : Nat) (k5 : Nat → Int32 → Int32 → Int32 → Int32 → List va_E → Option (Int32 × List va_E)) (v0 : Nat) (v1 : Int32) (v2 : Int32) (v4 : Int32) (w : List va_E) : Option (Int32 × List va_E) := (f_M_matters_55 fu k5 (v0) (v1) (v2) (v4) ((1 : Int32)) w)
def f_M_matters_5 (fu : Nat) : Nat → Nat → Int32 → Int32 → Int32 → Int32 → List va_E → Option (Int32 × List va_E)
  | 0, _, _, _, _, _, _ => none
  | n + 1, v0, v1, v2, v3, v4, w => (if ((1 : Int32) <<< (v1 &&& 31)) ≤ v4 then (if v3 = 0 ∨ v3 = 1 then some (v3, w) else none) else (if v3 = 0 then ((hp_gr w v0 7 14).bind fun q1 => ((hp_rz w q1 ((v2 <<< ((v1 + (1 : Int32)) &&& 31)) + v4)).bind fun x2 => ((hp_gr w v0 7 14).bind fun q3 => ((hp_rz w q3 (((v2 <<< ((v1 + (1 : Int32)) &&& 31)) + ((1 : Int32) <<< (v1 &&& 31))) + v4)).bind fun x4 => (if x2 = x4 then (f_M_matters_55 fu (f_M_matters_5 fu n) (v0) (v1) (v2) (v4) ((0 : Int32)) w) else (f_M_matters_50 fu (f_M_matters_5 fu n) (v0) (v1) (v2) (v4) w)))))) else (f_M_matters_50 fu (f_M_matters_5 fu n) (v0) (v1) (v2) (v4) w)))
def f_M_matters (fu : Nat) (v0 : Nat) (v1 : Int32) (v2 : Int32) (w : List va_E) : Option (Int32 × List va_E) := (f_M_matters_5 fu fu (v0) (v1) (v2) ((0 : Int32)) ((0 : Int32)) w)
section
variable {p : Program} {l : Launch} {e : Env} {s : State} {m : MethodId} {args : Array Value} {below : List Frame} {meth : Method} {c : Code} {D : va_G} {ca : Nat → Nat} {A : Nat → Prop} {ad : Nat → Nat}
set_option maxRecDepth 100000 in
set_option maxHeartbeats 4000000 in
theorem v_M_matters_55 (K : av_K p s m args meth c D cl8 ca A b_M_matters 5 R_M WS) (G : av_G NS tabON A s s.heap) (hr : meth.sig.returnType = some .boolean) (fu : Nat) {r : Int32 × List va_E} (k5 : Nat → Int32 → Int32 → Int32 → Int32 → List va_E → Option (Int32 × List va_E)) (hk5 : ∀ (v0 : Nat) (v1 : Int32) (v2 : Int32) (v3 : Int32) (v4 : Int32) (w : List va_E), k5 v0 v1 v2 v3 v4 w = some r → av_VI p l e rm_M_matters s m args below meth c D cl8 A ad ca 5 r 5 [some (.ref v0), some (.int v1), some (.int v2), some (.int v3), some (.int v4)] [] w) (v0 : Nat) (v1 : Int32) (v2 : Int32) (v4 : Int32) (s0 : Int32) (w : List va_E) (h : f_M_matters_55 fu k5 v0 v1 v2 v4 s0 w = some r) : av_VI p l e rm_M_matters s m args below meth c D cl8 A ad ca 5 r 55 [some (.ref v0), some (.int v1), some (.int v2), none, some (.int v4)] [.int s0] w := by
  unfold f_M_matters_55 at h
  refine av_istore_n (L' := [some (.ref v0), some (.int v1), some (.int v2), some (.int s0), some (.int v4)]) K d_M_matters_55 rfl (Nat.le_of_ble_eq_true rfl) rfl ?_
  refine av_iinc (v := (v4 + (1 : Int32))) (L' := [some (.ref v0), some (.int v1), some (.int v2), some (.int s0), some (.int (v4 + (1 : Int32)))]) K d_M_matters_56 rfl (congrArg (fun z => v4 + z) (show Int32.ofInt 1 = (1 : Int32) by decide)) (Nat.le_of_ble_eq_true rfl) rfl ?_
  refine av_goto (tgt := 5) K d_M_matters_59 rfl ?_
  exact hk5 (v0) (v1) (v2) (s0) ((v4 + (1 : Int32))) _ h
set_option maxRecDepth 100000 in
set_option maxHeartbeats 4000000 in
theorem v_M_matters_50 (K : av_K p s m args meth c D cl8 ca A b_M_matters 5 R_M WS) (G : av_G NS tabON A s s.heap) (hr : meth.sig.returnType = some .boolean) (fu : Nat) {r : Int32 × List va_E} (k5 : Nat → Int32 → Int32 → Int32 → Int32 → List va_E → Option (Int32 × List va_E)) (hk5 : ∀ (v0 : Nat) (v1 : Int32) (v2 : Int32) (v3 : Int32) (v4 : Int32) (w : List va_E), k5 v0 v1 v2 v3 v4 w = some r → av_VI p l e rm_M_matters s m args below meth c D cl8 A ad ca 5 r 5 [some (.ref v0), some (.int v1), some (.int v2), some (.int v3), some (.int v4)] [] w) (v0 : Nat) (v1 : Int32) (v2 : Int32) (v4 : Int32) (w : List va_E) (h : f_M_matters_50 fu k5 v0 v1 v2 v4 w = some r) : av_VI p l e rm_M_matters s m args below meth c D cl8 A ad ca 5 r 50 [some (.ref v0), some (.int v1), some (.int v2), none, some (.int v4)] [] w := by
  unfold f_M_matters_50 at h
  refine av_iconst (v := (1 : Int32)) K d_M_matters_50 (by decide) ?_
  refine av_goto (tgt := 55) K d_M_matters_51 rfl ?_
  exact v_M_matters_55 K G hr fu k5 hk5 (v0) (v1) (v2) (v4) ((1 : Int32)) _ h
set_option maxRecDepth 100000 in
set_option maxHeartbeats 4000000 in
theorem v_M_matters_5 (K : av_K p s m args meth c D cl8 ca A b_M_matters 5 R_M WS) (G : av_G NS tabON A s s.heap) (hr : meth.sig.returnType = some .boolean) (fu : Nat) {r : Int32 × List va_E} : ∀ (n : Nat) (v0 : Nat) (v1 : Int32) (v2 : Int32) (v3 : Int32) (v4 : Int32) (w : List va_E), f_M_matters_5 fu n v0 v1 v2 v3 v4 w = some r → av_VI p l e rm_M_matters s m args below meth c D cl8 A ad ca 5 r 5 [some (.ref v0), some (.int v1), some (.int v2), some (.int v3), some (.int v4)] [] w := by
  intro n
  induction n with
  | zero => intro _ _ _ _ _ _ h; cases h
  | succ n ih =>
    intro v0 v1 v2 v3 v4 w h
    unfold f_M_matters_5 at h
    refine av_iload K d_M_matters_5 rfl ?_
    refine av_iconst (v := (1 : Int32)) K d_M_matters_7 (by decide) ?_
    refine av_iload_n K d_M_matters_8 rfl rfl ?_
    refine av_ishl K d_M_matters_9 ?_
    refine av_icmp_ge (tgt := 62) K d_M_matters_10 rfl (fun hc => ?_) (fun hc => ?_)
    · rw [if_pos hc] at h
      refine av_iload_n K d_M_matters_62 rfl rfl ?_
      obtain ⟨hz, h⟩ := hp_if h
      obtain rfl := Option.some.inj h
      exact av_zreturn K hr (hp_nz hz) d_M_matters_63 rfl
    · rw [if_neg hc] at h
      refine av_iload_n K d_M_matters_13 rfl rfl ?_
      refine av_if_ne (tgt := 50) K d_M_matters_14 rfl (fun hc => ?_) (fun hc => ?_)
      · rw [if_neg hc] at h
        refine hv_fg (L' := [some (.ref v0), some (.int v1), some (.int v2), none, some (.int v4)]) [3] rfl ?_
        exact v_M_matters_50 K G hr fu (f_M_matters_5 fu n) ih (v0) (v1) (v2) (v4) _ h
      · rw [if_pos hc] at h
        refine av_aload_n K d_M_matters_17 rfl rfl ?_
        obtain ⟨q1, eq1, h⟩ := hp_bd h
        refine hv_gr K fl_M_45 d_M_matters_18 eq1 ?_
        refine av_iload_n K d_M_matters_21 rfl rfl ?_
        refine av_iload_n K d_M_matters_22 rfl rfl ?_
        refine av_iconst (v := (1 : Int32)) K d_M_matters_23 (by decide) ?_
        refine av_iadd K d_M_matters_24 ?_
        refine av_ishl K d_M_matters_25 ?_
        refine av_iload K d_M_matters_26 rfl ?_
        refine av_iadd K d_M_matters_28 ?_
        obtain ⟨x2, ex2, h⟩ := hp_bd h
        refine hv_rz K d_M_matters_29 ex2 ?_
        refine av_aload_n K d_M_matters_30 rfl rfl ?_
        obtain ⟨q3, eq3, h⟩ := hp_bd h
        refine hv_gr K fl_M_45 d_M_matters_31 eq3 ?_
        refine av_iload_n K d_M_matters_34 rfl rfl ?_
        refine av_iload_n K d_M_matters_35 rfl rfl ?_
        refine av_iconst (v := (1 : Int32)) K d_M_matters_36 (by decide) ?_
        refine av_iadd K d_M_matters_37 ?_
        refine av_ishl K d_M_matters_38 ?_
        refine av_iconst (v := (1 : Int32)) K d_M_matters_39 (by decide) ?_
        refine av_iload_n K d_M_matters_40 rfl rfl ?_
        refine av_ishl K d_M_matters_41 ?_
        refine av_iadd K d_M_matters_42 ?_
        refine av_iload K d_M_matters_43 rfl ?_
        refine av_iadd K d_M_matters_45 ?_
        obtain ⟨x4, ex4, h⟩ := hp_bd h
        refine hv_rz K d_M_matters_46 ex4 ?_
        refine av_icmp_eq (tgt := 54) K d_M_matters_47 rfl (fun hc => ?_) (fun hc => ?_)
        · rw [if_pos hc] at h
          refine av_iconst (v := (0 : Int32)) K d_M_matters_54 (by decide) ?_
          refine hv_fg (L' := [some (.ref v0), some (.int v1), some (.int v2), none, some (.int v4)]) [3] rfl ?_
          exact v_M_matters_55 K G hr fu (f_M_matters_5 fu n) ih (v0) (v1) (v2) (v4) ((0 : Int32)) _ h
        · rw [if_neg hc] at h
          refine hv_fg (L' := [some (.ref v0), some (.int v1), some (.int v2), none, some (.int v4)]) [3] rfl ?_
          exact v_M_matters_50 K G hr fu (f_M_matters_5 fu n) ih (v0) (v1) (v2) (v4) _ h
set_option maxRecDepth 100000 in
set_option maxHeartbeats 4000000 in
theorem v_M_matters (K : av_K p s m args meth c D cl8 ca A b_M_matters 5 R_M WS) (G : av_G NS tabON A s s.heap) (hr : meth.sig.returnType = some .boolean) (fu : Nat) {r : Int32 × List va_E} (v0 : Nat) (v1 : Int32) (v2 : Int32) (w : List va_E) (h : f_M_matters fu v0 v1 v2 w = some r) : av_VI p l e rm_M_matters s m args below meth c D cl8 A ad ca 5 r 0 [some (.ref v0), some (.int v1), some (.int v2), none, none] [] w := by
  unfold f_M_matters at h
  refine av_iconst (v := (0 : Int32)) K d_M_matters_0 (by decide) ?_
  refine av_istore_n (L' := [some (.ref v0), some (.int v1), some (.int v2), some (.int (0 : Int32)), none]) K d_M_matters_1 rfl (Nat.le_of_ble_eq_true rfl) rfl ?_
  refine av_iconst (v := (0 : Int32)) K d_M_matters_2 (by decide) ?_
  refine av_istore (L' := [some (.ref v0), some (.int v1), some (.int v2), some (.int (0 : Int32)), some (.int (0 : Int32))]) K d_M_matters_3 (Nat.le_of_ble_eq_true rfl) rfl ?_
  exact v_M_matters_5 K G hr fu fu (v0) (v1) (v2) ((0 : Int32)) ((0 : Int32)) _ h
end
set_option maxRecDepth 100000 in
theorem c_M_matters {l : Launch} {D : va_G} {ca : Nat → Nat} {tab : Nat → Int64} {fu : Nat} {v0 : Nat} {v1 : Int32} {v2 : Int32} {w : List va_E} {r : Int32 × List va_E} (h : f_M_matters fu v0 v1 v2 w = some r) : av_Ci l D cl8 ca NS tabON y_M_matters w_M_matters rm_M_matters [.ref v0, .int v1, .int v2] w (fun v u => (v, u) = r) :=
  av_inI (cc := b_M_matters) (nL := 5) (by decide +kernel) rfl (Nat.le_of_ble_eq_true rfl) (fun p e s m args below meth c A ad K G hr => v_M_matters K G hr fu v0 v1 v2 w h)

-- FaultTreeDeskModel.nodes()I
theorem d_M_nodes_0 : decode b_M_nodes 0 = .ok (.aload_n 0, 1) := by decide +kernel
theorem d_M_nodes_1 : decode b_M_nodes 1 = .ok (.iconst 1, 1) := by decide +kernel
theorem d_M_nodes_2 : decode b_M_nodes 2 = .ok (.invokevirtual 90, 3) := by decide +kernel
theorem d_M_nodes_5 : decode b_M_nodes 5 = .ok (.ifCond .eq 5, 3) := by decide +kernel
theorem d_M_nodes_8 : decode b_M_nodes 8 = .ok (.iconst 0, 1) := by decide +kernel
theorem d_M_nodes_9 : decode b_M_nodes 9 = .ok (.ireturn, 1) := by decide +kernel
theorem d_M_nodes_10 : decode b_M_nodes 10 = .ok (.iconst 0, 1) := by decide +kernel
theorem d_M_nodes_11 : decode b_M_nodes 11 = .ok (.istore_n 1, 1) := by decide +kernel
theorem d_M_nodes_12 : decode b_M_nodes 12 = .ok (.iconst 0, 1) := by decide +kernel
theorem d_M_nodes_13 : decode b_M_nodes 13 = .ok (.istore_n 2, 1) := by decide +kernel
theorem d_M_nodes_14 : decode b_M_nodes 14 = .ok (.iload_n 2, 1) := by decide +kernel
theorem d_M_nodes_15 : decode b_M_nodes 15 = .ok (.aload_n 0, 1) := by decide +kernel
theorem d_M_nodes_16 : decode b_M_nodes 16 = .ok (.getfield 61, 3) := by decide +kernel
theorem d_M_nodes_19 : decode b_M_nodes 19 = .ok (.if_icmp .ge 90, 3) := by decide +kernel
theorem d_M_nodes_22 : decode b_M_nodes 22 = .ok (.iconst 0, 1) := by decide +kernel
theorem d_M_nodes_23 : decode b_M_nodes 23 = .ok (.istore_n 3, 1) := by decide +kernel
theorem d_M_nodes_24 : decode b_M_nodes 24 = .ok (.iload_n 3, 1) := by decide +kernel
theorem d_M_nodes_25 : decode b_M_nodes 25 = .ok (.iconst 1, 1) := by decide +kernel
theorem d_M_nodes_26 : decode b_M_nodes 26 = .ok (.aload_n 0, 1) := by decide +kernel
theorem d_M_nodes_27 : decode b_M_nodes 27 = .ok (.getfield 61, 3) := by decide +kernel
theorem d_M_nodes_30 : decode b_M_nodes 30 = .ok (.iconst 1, 1) := by decide +kernel
theorem d_M_nodes_31 : decode b_M_nodes 31 = .ok (.isub, 1) := by decide +kernel
theorem d_M_nodes_32 : decode b_M_nodes 32 = .ok (.iload_n 2, 1) := by decide +kernel
theorem d_M_nodes_33 : decode b_M_nodes 33 = .ok (.isub, 1) := by decide +kernel
theorem d_M_nodes_34 : decode b_M_nodes 34 = .ok (.ishl, 1) := by decide +kernel
theorem d_M_nodes_35 : decode b_M_nodes 35 = .ok (.if_icmp .ge 68, 3) := by decide +kernel
theorem d_M_nodes_38 : decode b_M_nodes 38 = .ok (.aload_n 0, 1) := by decide +kernel
theorem d_M_nodes_39 : decode b_M_nodes 39 = .ok (.iload_n 2, 1) := by decide +kernel
theorem d_M_nodes_40 : decode b_M_nodes 40 = .ok (.iload_n 3, 1) := by decide +kernel
theorem d_M_nodes_41 : decode b_M_nodes 41 = .ok (.invokevirtual 99, 3) := by decide +kernel
theorem d_M_nodes_44 : decode b_M_nodes 44 = .ok (.istore 4, 2) := by decide +kernel
theorem d_M_nodes_46 : decode b_M_nodes 46 = .ok (.iconst 0, 1) := by decide +kernel
theorem d_M_nodes_47 : decode b_M_nodes 47 = .ok (.istore 5, 2) := by decide +kernel
theorem d_M_nodes_49 : decode b_M_nodes 49 = .ok (.iload 5, 2) := by decide +kernel
theorem d_M_nodes_51 : decode b_M_nodes 51 = .ok (.iload_n 3, 1) := by decide +kernel
theorem d_M_nodes_52 : decode b_M_nodes 52 = .ok (.if_icmp .ge 32, 3) := by decide +kernel
theorem d_M_nodes_55 : decode b_M_nodes 55 = .ok (.iload 4, 2) := by decide +kernel
theorem d_M_nodes_57 : decode b_M_nodes 57 = .ok (.ifCond .eq 27, 3) := by decide +kernel
theorem d_M_nodes_60 : decode b_M_nodes 60 = .ok (.aload_n 0, 1) := by decide +kernel
theorem d_M_nodes_61 : decode b_M_nodes 61 = .ok (.iload_n 2, 1) := by decide +kernel
theorem d_M_nodes_62 : decode b_M_nodes 62 = .ok (.iload_n 3, 1) := by decide +kernel
theorem d_M_nodes_63 : decode b_M_nodes 63 = .ok (.iload 5, 2) := by decide +kernel
theorem d_M_nodes_65 : decode b_M_nodes 65 = .ok (.invokevirtual 102, 3) := by decide +kernel
theorem d_M_nodes_68 : decode b_M_nodes 68 = .ok (.ifCond .ne 7, 3) := by decide +kernel
theorem d_M_nodes_71 : decode b_M_nodes 71 = .ok (.iconst 1, 1) := by decide +kernel
theorem d_M_nodes_72 : decode b_M_nodes 72 = .ok (.goto 4, 3) := by decide +kernel
theorem d_M_nodes_75 : decode b_M_nodes 75 = .ok (.iconst 0, 1) := by decide +kernel
theorem d_M_nodes_76 : decode b_M_nodes 76 = .ok (.istore 4, 2) := by decide +kernel
theorem d_M_nodes_78 : decode b_M_nodes 78 = .ok (.iinc 5 1, 3) := by decide +kernel
theorem d_M_nodes_81 : decode b_M_nodes 81 = .ok (.goto (-32), 3) := by decide +kernel
theorem d_M_nodes_84 : decode b_M_nodes 84 = .ok (.iload_n 1, 1) := by decide +kernel
theorem d_M_nodes_85 : decode b_M_nodes 85 = .ok (.iload 4, 2) := by decide +kernel
theorem d_M_nodes_87 : decode b_M_nodes 87 = .ok (.ifCond .eq 7, 3) := by decide +kernel
theorem d_M_nodes_90 : decode b_M_nodes 90 = .ok (.iconst 1, 1) := by decide +kernel
theorem d_M_nodes_91 : decode b_M_nodes 91 = .ok (.goto 4, 3) := by decide +kernel
theorem d_M_nodes_94 : decode b_M_nodes 94 = .ok (.iconst 0, 1) := by decide +kernel
theorem d_M_nodes_95 : decode b_M_nodes 95 = .ok (.iadd, 1) := by decide +kernel
theorem d_M_nodes_96 : decode b_M_nodes 96 = .ok (.istore_n 1, 1) := by decide +kernel
theorem d_M_nodes_97 : decode b_M_nodes 97 = .ok (.iinc 3 1, 3) := by decide +kernel
theorem d_M_nodes_100 : decode b_M_nodes 100 = .ok (.goto (-76), 3) := by decide +kernel
theorem d_M_nodes_103 : decode b_M_nodes 103 = .ok (.iinc 2 1, 3) := by decide +kernel
theorem d_M_nodes_106 : decode b_M_nodes 106 = .ok (.goto (-92), 3) := by decide +kernel
theorem d_M_nodes_109 : decode b_M_nodes 109 = .ok (.iload_n 1, 1) := by decide +kernel
theorem d_M_nodes_110 : decode b_M_nodes 110 = .ok (.ireturn, 1) := by decide +kernel
def rm_M_nodes : Room := { frames := 4, cells := 0, slots := 0, locals := 93 }
def f_M_nodes_95 (fu : Nat) (k14 : Nat → Int32 → Int32 → List va_E → Option (Int32 × List va_E)) (k24 : Nat → Int32 → Int32 → Int32 → List va_E → Option (Int32 × List va_E)) (v0 : Nat) (v2 : Int32) (v3 : Int32) (s0 : Int32) (s1 : Int32) (w : List va_E) : Option (Int32 × List va_E) := (k24 (v0) ((s0 + s1)) (v2) ((v3 + (1 : Int32))) w)
def f_M_nodes_84 (fu : Nat) (k14 : Nat → Int32 → Int32 → List va_E → Option (Int32 × List va_E)) (k24 : Nat → Int32 → Int32 → Int32 → List va_E → Option (Int32 × List va_E)) (v0 : Nat) (v1 : Int32) (v2 : Int32) (v3 : Int32) (v4 : Int32) (w : List va_E) : Option (Int32 × List va_E) := (if v4 = 0 then (f_M_nodes_95 fu k14 k24 (v0) (v2) (v3) (v1) ((0 : Int32)) w) else (f_M_nodes_95 fu k14 k24 (v0) (v2) (v3) (v1) ((1 : Int32)) w))
def f_M_nodes_76 (fu : Nat) (k14 : Nat → Int32 → Int32 → List va_E → Option (Int32 × List va_E)) (k24 : Nat → Int32 → Int32 → Int32 → List va_E → Option (Int32 × List va_E)) (k49 : Nat → Int32 → Int32 → Int32 → Int32 → Int32 → List va_E → Option (Int32 × List va_E)) (v0 : Nat) (v1 : Int32) (v2 : Int32) (v3 : Int32) (v5 : Int32) (s0 : Int32) (w : List va_E) : Option (Int32 × List va_E) := (k49 (v0) (v1) (v2) (v3) (s0) ((v5 + (1 : Int32))) w)
def f_M_nodes_49 (fu : Nat) (k14 : Nat → Int32 → Int32 → List va_E → Option (Int32 × List va_E)) (k24 : Nat → Int32 → Int32 → Int32 → List va_E → Option (Int32 × List va_E)) : Nat → Nat → Int32 → Int32 → Int32 → Int32 → Int32 → List va_E → Option (Int32 × List va_E)
  | 0, _, _, _, _, _, _, _ => none
  | n + 1, v0, v1, v2, v3, v4, v5, w => (if v3 ≤ v5 then (f_M_nodes_84 fu k14 k24 (v0) (v1) (v2) (v3) (v4) w) else (if v4 = 0 then (f_M_nodes_84 fu k14 k24 (v0) (v1) (v2) (v3) (v4) w) else ((hp_is w v0 7).bind fun _ => ((f_M_alike fu v0 v2 v3 v5 w).bind fun r1 => (if r1.1 = 0 then (f_M_nodes_76 fu k14 k24 (f_M_nodes_49 fu k14 k24 n) (v0) (v1) (v2) (v3) (v5) ((1 : Int32)) r1.2) else (f_M_nodes_76 fu k14 k24 (f_M_nodes_49 fu k14 k24 n) (v0) (v1) (v2) (v3) (v5) ((0 : Int32)) r1.2))))))
def f_M_nodes_24 (fu : Nat) (k14 : Nat → Int32 → Int32 → List va_E → Option (Int32 × List va_E)) : Nat → Nat → Int32 → Int32 → Int32 → List va_E → Option (Int32 × List va_E)
  | 0, _, _, _, _, _ => none
  | n + 1, v0, v1, v2, v3, w => ((hp_gi w v0 7 1).bind fun x1 => (if ((1 : Int32) <<< (((x1 - (1 : Int32)) - v2) &&& 31)) ≤ v3 then (k14 (v0) (v1) ((v2 + (1 : Int32))) w) else ((hp_is w v0 7).bind fun _ => ((f_M_matters fu v0 v2 v3 w).bind fun r2 => (f_M_nodes_49 fu k14 (f_M_nodes_24 fu k14 n) fu (v0) (v1) (v2) (v3) (r2.1) ((0 : Int32)) r2.2)))))
def f_M_nodes_14 (fu : Nat) : Nat → Nat → Int32 → Int32 → List va_E → Option (Int32 × List va_E)
  | 0, _, _, _, _ => none
  | n + 1, v0, v1, v2, w => ((hp_gi w v0 7 1).bind fun x1 => (if x1 ≤ v2 then (some (v1, w)) else (f_M_nodes_24 fu (f_M_nodes_14 fu n) fu (v0) (v1) (v2) ((0 : Int32)) w)))
def f_M_nodes (fu : Nat) (v0 : Nat) (w : List va_E) : Option (Int32 × List va_E) := ((hp_is w v0 7).bind fun _ => ((f_M_lacks fu v0 (1 : Int32) w).bind fun r1 => (if r1.1 = 0 then (f_M_nodes_14 fu fu (v0) ((0 : Int32)) ((0 : Int32)) r1.2) else (some ((0 : Int32), r1.2)))))
section
variable {p : Program} {l : Launch} {e : Env} {s : State} {m : MethodId} {args : Array Value} {below : List Frame} {meth : Method} {c : Code} {D : va_G} {ca : Nat → Nat} {A : Nat → Prop} {ad : Nat → Nat}
set_option maxRecDepth 100000 in
set_option maxHeartbeats 4000000 in
theorem v_M_nodes_95 (K : av_K p s m args meth c D cl8 ca A b_M_nodes 6 R_M WS) (G : av_G NS tabON A s s.heap) (hr : meth.sig.returnType = some .int) (fu : Nat) {r : Int32 × List va_E} (k14 : Nat → Int32 → Int32 → List va_E → Option (Int32 × List va_E)) (k24 : Nat → Int32 → Int32 → Int32 → List va_E → Option (Int32 × List va_E)) (hk14 : ∀ (v0 : Nat) (v1 : Int32) (v2 : Int32) (w : List va_E), k14 v0 v1 v2 w = some r → av_VI p l e rm_M_nodes s m args below meth c D cl8 A ad ca 6 r 14 [some (.ref v0), some (.int v1), some (.int v2), none, none, none] [] w) (hk24 : ∀ (v0 : Nat) (v1 : Int32) (v2 : Int32) (v3 : Int32) (w : List va_E), k24 v0 v1 v2 v3 w = some r → av_VI p l e rm_M_nodes s m args below meth c D cl8 A ad ca 6 r 24 [some (.ref v0), some (.int v1), some (.int v2), some (.int v3), none, none] [] w) (v0 : Nat) (v2 : Int32) (v3 : Int32) (s0 : Int32) (s1 : Int32) (w : List va_E) (h : f_M_nodes_95 fu k14 k24 v0 v2 v3 s0 s1 w = some r) : av_VI p l e rm_M_nodes s m args below meth c D cl8 A ad ca 6 r 95 [some (.ref v0), none, some (.int v2), some (.int v3), none, none] [.int s1, .int s0] w := by
  unfold f_M_nodes_95 at h
  refine av_iadd K d_M_nodes_95 ?_
  refine av_istore_n (L' := [some (.ref v0), some (.int (s0 + s1)), some (.int v2), some (.int v3), none, none]) K d_M_nodes_96 rfl (Nat.le_of_ble_eq_true rfl) rfl ?_
  refine av_iinc (v := (v3 + (1 : Int32))) (L' := [some (.ref v0), some (.int (s0 + s1)), some (.int v2), some (.int (v3 + (1 : Int32))), none, none]) K d_M_nodes_97 rfl (congrArg (fun z => v3 + z) (show Int32.ofInt 1 = (1 : Int32) by decide)) (Nat.le_of_ble_eq_true rfl) rfl ?_
  refine av_goto (tgt := 24) K d_M_nodes_100 rfl ?_
  exact hk24 (v0) ((s0 + s1)) (v2) ((v3 + (1 : Int32))) _ h
set_option maxRecDepth 100000 in
set_option maxHeartbeats 4000000 in
theorem v_M_nodes_84 (K : av_K p s m args meth c D cl8 ca A b_M_nodes 6 R_M WS) (G : av_G NS tabON A s s.heap) (hr : meth.sig.returnType = some .int) (fu : Nat) {r : Int32 × List va_E} (k14 : Nat → Int32 → Int32 → List va_E → Option (Int32 × List va_E)) (k24 : Nat → Int32 → Int32 → Int32 → List va_E → Option (Int32 × List va_E)) (hk14 : ∀ (v0 : Nat) (v1 : Int32) (v2 : Int32) (w : List va_E), k14 v0 v1 v2 w = some r → av_VI p l e rm_M_nodes s m args below meth c D cl8 A ad ca 6 r 14 [some (.ref v0), some (.int v1), some (.int v2), none, none, none] [] w) (hk24 : ∀ (v0 : Nat) (v1 : Int32) (v2 : Int32) (v3 : Int32) (w : List va_E), k24 v0 v1 v2 v3 w = some r → av_VI p l e rm_M_nodes s m args below meth c D cl8 A ad ca 6 r 24 [some (.ref v0), some (.int v1), some (.int v2), some (.int v3), none, none] [] w) (v0 : Nat) (v1 : Int32) (v2 : Int32) (v3 : Int32) (v4 : Int32) (w : List va_E) (h : f_M_nodes_84 fu k14 k24 v0 v1 v2 v3 v4 w = some r) : av_VI p l e rm_M_nodes s m args below meth c D cl8 A ad ca 6 r 84 [some (.ref v0), some (.int v1), some (.int v2), some (.int v3), some (.int v4), none] [] w := by
  unfold f_M_nodes_84 at h
  refine av_iload_n K d_M_nodes_84 rfl rfl ?_
  refine av_iload K d_M_nodes_85 rfl ?_
  refine av_if_eq (tgt := 94) K d_M_nodes_87 rfl (fun hc => ?_) (fun hc => ?_)
  · rw [if_pos hc] at h
    refine av_iconst (v := (0 : Int32)) K d_M_nodes_94 (by decide) ?_
    refine hv_fg (L' := [some (.ref v0), none, some (.int v2), some (.int v3), none, none]) [1, 4] rfl ?_
    exact v_M_nodes_95 K G hr fu k14 k24 hk14 hk24 (v0) (v2) (v3) (v1) ((0 : Int32)) _ h
  · rw [if_neg hc] at h
    refine av_iconst (v := (1 : Int32)) K d_M_nodes_90 (by decide) ?_
    refine av_goto (tgt := 95) K d_M_nodes_91 rfl ?_
    refine hv_fg (L' := [some (.ref v0), none, some (.int v2), some (.int v3), none, none]) [1, 4] rfl ?_
    exact v_M_nodes_95 K G hr fu k14 k24 hk14 hk24 (v0) (v2) (v3) (v1) ((1 : Int32)) _ h
set_option maxRecDepth 100000 in
set_option maxHeartbeats 4000000 in
theorem v_M_nodes_76 (K : av_K p s m args meth c D cl8 ca A b_M_nodes 6 R_M WS) (G : av_G NS tabON A s s.heap) (hr : meth.sig.returnType = some .int) (fu : Nat) {r : Int32 × List va_E} (k14 : Nat → Int32 → Int32 → List va_E → Option (Int32 × List va_E)) (k24 : Nat → Int32 → Int32 → Int32 → List va_E → Option (Int32 × List va_E)) (k49 : Nat → Int32 → Int32 → Int32 → Int32 → Int32 → List va_E → Option (Int32 × List va_E)) (hk14 : ∀ (v0 : Nat) (v1 : Int32) (v2 : Int32) (w : List va_E), k14 v0 v1 v2 w = some r → av_VI p l e rm_M_nodes s m args below meth c D cl8 A ad ca 6 r 14 [some (.ref v0), some (.int v1), some (.int v2), none, none, none] [] w) (hk24 : ∀ (v0 : Nat) (v1 : Int32) (v2 : Int32) (v3 : Int32) (w : List va_E), k24 v0 v1 v2 v3 w = some r → av_VI p l e rm_M_nodes s m args below meth c D cl8 A ad ca 6 r 24 [some (.ref v0), some (.int v1), some (.int v2), some (.int v3), none, none] [] w) (hk49 : ∀ (v0 : Nat) (v1 : Int32) (v2 : Int32) (v3 : Int32) (v4 : Int32) (v5 : Int32) (w : List va_E), k49 v0 v1 v2 v3 v4 v5 w = some r → av_VI p l e rm_M_nodes s m args below meth c D cl8 A ad ca 6 r 49 [some (.ref v0), some (.int v1), some (.int v2), some (.int v3), some (.int v4), some (.int v5)] [] w) (v0 : Nat) (v1 : Int32) (v2 : Int32) (v3 : Int32) (v5 : Int32) (s0 : Int32) (w : List va_E) (h : f_M_nodes_76 fu k14 k24 k49 v0 v1 v2 v3 v5 s0 w = some r) : av_VI p l e rm_M_nodes s m args below meth c D cl8 A ad ca 6 r 76 [some (.ref v0), some (.int v1), some (.int v2), some (.int v3), none, some (.int v5)] [.int s0] w := by
  unfold f_M_nodes_76 at h
  refine av_istore (L' := [some (.ref v0), some (.int v1), some (.int v2), some (.int v3), some (.int s0), some (.int v5)]) K d_M_nodes_76 (Nat.le_of_ble_eq_true rfl) rfl ?_
  refine av_iinc (v := (v5 + (1 : Int32))) (L' := [some (.ref v0), some (.int v1), some (.int v2), some (.int v3), some (.int s0), some (.int (v5 + (1 : Int32)))]) K d_M_nodes_78 rfl (congrArg (fun z => v5 + z) (show Int32.ofInt 1 = (1 : Int32) by decide)) (Nat.le_of_ble_eq_true rfl) rfl ?_
  refine av_goto (tgt := 49) K d_M_nodes_81 rfl ?_
  exact hk49 (v0) (v1) (v2) (v3) (s0) ((v5 + (1 : Int32))) _ h
set_option maxRecDepth 100000 in
set_option maxHeartbeats 4000000 in
theorem v_M_nodes_49 (K : av_K p s m args meth c D cl8 ca A b_M_nodes 6 R_M WS) (G : av_G NS tabON A s s.heap) (hr : meth.sig.returnType = some .int) (fu : Nat) {r : Int32 × List va_E} (k14 : Nat → Int32 → Int32 → List va_E → Option (Int32 × List va_E)) (k24 : Nat → Int32 → Int32 → Int32 → List va_E → Option (Int32 × List va_E)) (hk14 : ∀ (v0 : Nat) (v1 : Int32) (v2 : Int32) (w : List va_E), k14 v0 v1 v2 w = some r → av_VI p l e rm_M_nodes s m args below meth c D cl8 A ad ca 6 r 14 [some (.ref v0), some (.int v1), some (.int v2), none, none, none] [] w) (hk24 : ∀ (v0 : Nat) (v1 : Int32) (v2 : Int32) (v3 : Int32) (w : List va_E), k24 v0 v1 v2 v3 w = some r → av_VI p l e rm_M_nodes s m args below meth c D cl8 A ad ca 6 r 24 [some (.ref v0), some (.int v1), some (.int v2), some (.int v3), none, none] [] w) : ∀ (n : Nat) (v0 : Nat) (v1 : Int32) (v2 : Int32) (v3 : Int32) (v4 : Int32) (v5 : Int32) (w : List va_E), f_M_nodes_49 fu k14 k24 n v0 v1 v2 v3 v4 v5 w = some r → av_VI p l e rm_M_nodes s m args below meth c D cl8 A ad ca 6 r 49 [some (.ref v0), some (.int v1), some (.int v2), some (.int v3), some (.int v4), some (.int v5)] [] w := by
  intro n
  induction n with
  | zero => intro _ _ _ _ _ _ _ h; cases h
  | succ n ih =>
    intro v0 v1 v2 v3 v4 v5 w h
    unfold f_M_nodes_49 at h
    refine av_iload K d_M_nodes_49 rfl ?_
    refine av_iload_n K d_M_nodes_51 rfl rfl ?_
    refine av_icmp_ge (tgt := 84) K d_M_nodes_52 rfl (fun hc => ?_) (fun hc => ?_)
    · rw [if_pos hc] at h
      refine hv_fg (L' := [some (.ref v0), some (.int v1), some (.int v2), some (.int v3), some (.int v4), none]) [5] rfl ?_
      exact v_M_nodes_84 K G hr fu k14 k24 hk14 hk24 (v0) (v1) (v2) (v3) (v4) _ h
    · rw [if_neg hc] at h
      refine av_iload K d_M_nodes_55 rfl ?_
      refine av_if_eq (tgt := 84) K d_M_nodes_57 rfl (fun hc => ?_) (fun hc => ?_)
      · rw [if_pos hc] at h
        refine hv_fg (L' := [some (.ref v0), some (.int v1), some (.int v2), some (.int v3), some (.int v4), none]) [5] rfl ?_
        exact v_M_nodes_84 K G hr fu k14 k24 hk14 hk24 (v0) (v1) (v2) (v3) (v4) _ h
      · rw [if_neg hc] at h
        refine av_aload_n K d_M_nodes_60 rfl rfl ?_
        refine av_iload_n K d_M_nodes_61 rfl rfl ?_
        refine av_iload_n K d_M_nodes_62 rfl rfl ?_
        refine av_iload K d_M_nodes_63 rfl ?_
        obtain ⟨_, eo65, h⟩ := hp_bd h
        obtain ⟨r1, er1, h⟩ := hp_bd h
        obtain ⟨fs65, ho65⟩ := hp_is_of eo65
        refine av_cVi K G (c_M_alike (tab := tabON) er1) (cwV 3 K.2.2.2.2.1 (gV ml_M_102 im_M_alike se_M_alike in_M co_M_alike) rfl rfl rfl cd_M_alike ⟨Nat.le_of_ble_eq_true rfl, Nat.le_of_ble_eq_true rfl⟩) rfl ho65 rfl rfl (Nat.le_of_ble_eq_true rfl) d_M_nodes_65 ⟨Nat.zero_le _, Nat.zero_le _⟩ (fun a9 u9 h9 => ?_)
        obtain ⟨rfl, rfl⟩ : a9 = r1.1 ∧ u9 = r1.2 := ⟨congrArg Prod.fst h9, congrArg Prod.snd h9⟩
        refine av_if_ne (tgt := 75) K d_M_nodes_68 rfl (fun hc => ?_) (fun hc => ?_)
        · rw [if_neg hc] at h
          refine av_iconst (v := (0 : Int32)) K d_M_nodes_75 (by decide) ?_
          refine hv_fg (L' := [some (.ref v0), some (.int v1), some (.int v2), some (.int v3), none, some (.int v5)]) [4] rfl ?_
          exact v_M_nodes_76 K G hr fu k14 k24 (f_M_nodes_49 fu k14 k24 n) hk14 hk24 ih (v0) (v1) (v2) (v3) (v5) ((0 : Int32)) _ h
        · rw [if_pos hc] at h
          refine av_iconst (v := (1 : Int32)) K d_M_nodes_71 (by decide) ?_
          refine av_goto (tgt := 76) K d_M_nodes_72 rfl ?_
          refine hv_fg (L' := [some (.ref v0), some (.int v1), some (.int v2), some (.int v3), none, some (.int v5)]) [4] rfl ?_
          exact v_M_nodes_76 K G hr fu k14 k24 (f_M_nodes_49 fu k14 k24 n) hk14 hk24 ih (v0) (v1) (v2) (v3) (v5) ((1 : Int32)) _ h
set_option maxRecDepth 100000 in
set_option maxHeartbeats 4000000 in
theorem v_M_nodes_24 (K : av_K p s m args meth c D cl8 ca A b_M_nodes 6 R_M WS) (G : av_G NS tabON A s s.heap) (hr : meth.sig.returnType = some .int) (fu : Nat) {r : Int32 × List va_E} (k14 : Nat → Int32 → Int32 → List va_E → Option (Int32 × List va_E)) (hk14 : ∀ (v0 : Nat) (v1 : Int32) (v2 : Int32) (w : List va_E), k14 v0 v1 v2 w = some r → av_VI p l e rm_M_nodes s m args below meth c D cl8 A ad ca 6 r 14 [some (.ref v0), some (.int v1), some (.int v2), none, none, none] [] w) : ∀ (n : Nat) (v0 : Nat) (v1 : Int32) (v2 : Int32) (v3 : Int32) (w : List va_E), f_M_nodes_24 fu k14 n v0 v1 v2 v3 w = some r → av_VI p l e rm_M_nodes s m args below meth c D cl8 A ad ca 6 r 24 [some (.ref v0), some (.int v1), some (.int v2), some (.int v3), none, none] [] w := by
  intro n
  induction n with
  | zero => intro _ _ _ _ _ h; cases h
  | succ n ih =>
    intro v0 v1 v2 v3 w h
    unfold f_M_nodes_24 at h
    refine av_iload_n K d_M_nodes_24 rfl rfl ?_
    refine av_iconst (v := (1 : Int32)) K d_M_nodes_25 (by decide) ?_
    refine av_aload_n K d_M_nodes_26 rfl rfl ?_
    obtain ⟨x1, ex1, h⟩ := hp_bd h
    refine hv_gi K fl_M_61 d_M_nodes_27 ex1 ?_
    refine av_iconst (v := (1 : Int32)) K d_M_nodes_30 (by decide) ?_
    refine av_isub K d_M_nodes_31 ?_
    refine av_iload_n K d_M_nodes_32 rfl rfl ?_
    refine av_isub K d_M_nodes_33 ?_
    refine av_ishl K d_M_nodes_34 ?_
    refine av_icmp_ge (tgt := 103) K d_M_nodes_35 rfl (fun hc => ?_) (fun hc => ?_)
    · rw [if_pos hc] at h
      refine av_iinc (v := (v2 + (1 : Int32))) (L' := [some (.ref v0), some (.int v1), some (.int (v2 + (1 : Int32))), some (.int v3), none, none]) K d_M_nodes_103 rfl (congrArg (fun z => v2 + z) (show Int32.ofInt 1 = (1 : Int32) by decide)) (Nat.le_of_ble_eq_true rfl) rfl ?_
      refine av_goto (tgt := 14) K d_M_nodes_106 rfl ?_
      refine hv_fg (L' := [some (.ref v0), some (.int v1), some (.int (v2 + (1 : Int32))), none, none, none]) [3] rfl ?_
      exact hk14 (v0) (v1) ((v2 + (1 : Int32))) _ h
    · rw [if_neg hc] at h
      refine av_aload_n K d_M_nodes_38 rfl rfl ?_
      refine av_iload_n K d_M_nodes_39 rfl rfl ?_
      refine av_iload_n K d_M_nodes_40 rfl rfl ?_
      obtain ⟨_, eo41, h⟩ := hp_bd h
      obtain ⟨r2, er2, h⟩ := hp_bd h
      obtain ⟨fs41, ho41⟩ := hp_is_of eo41
      refine av_cVi K G (c_M_matters (tab := tabON) er2) (cwV 2 K.2.2.2.2.1 (gV ml_M_99 im_M_matters se_M_matters in_M co_M_matters) rfl rfl rfl cd_M_matters ⟨Nat.le_of_ble_eq_true rfl, Nat.le_of_ble_eq_true rfl⟩) rfl ho41 rfl rfl (Nat.le_of_ble_eq_true rfl) d_M_nodes_41 ⟨Nat.zero_le _, Nat.zero_le _⟩ (fun a9 u9 h9 => ?_)
      obtain ⟨rfl, rfl⟩ : a9 = r2.1 ∧ u9 = r2.2 := ⟨congrArg Prod.fst h9, congrArg Prod.snd h9⟩
      refine av_istore (L' := [some (.ref v0), some (.int v1), some (.int v2), some (.int v3), some (.int r2.1), none]) K d_M_nodes_44 (Nat.le_of_ble_eq_true rfl) rfl ?_
      refine av_iconst (v := (0 : Int32)) K d_M_nodes_46 (by decide) ?_
      refine av_istore (L' := [some (.ref v0), some (.int v1), some (.int v2), some (.int v3), some (.int r2.1), some (.int (0 : Int32))]) K d_M_nodes_47 (Nat.le_of_ble_eq_true rfl) rfl ?_
      exact v_M_nodes_49 K G hr fu k14 (f_M_nodes_24 fu k14 n) hk14 ih fu (v0) (v1) (v2) (v3) (r2.1) ((0 : Int32)) _ h
set_option maxRecDepth 100000 in
set_option maxHeartbeats 4000000 in
theorem v_M_nodes_14 (K : av_K p s m args meth c D cl8 ca A b_M_nodes 6 R_M WS) (G : av_G NS tabON A s s.heap) (hr : meth.sig.returnType = some .int) (fu : Nat) {r : Int32 × List va_E} : ∀ (n : Nat) (v0 : Nat) (v1 : Int32) (v2 : Int32) (w : List va_E), f_M_nodes_14 fu n v0 v1 v2 w = some r → av_VI p l e rm_M_nodes s m args below meth c D cl8 A ad ca 6 r 14 [some (.ref v0), some (.int v1), some (.int v2), none, none, none] [] w := by
  intro n
  induction n with
  | zero => intro _ _ _ _ h; cases h
  | succ n ih =>
    intro v0 v1 v2 w h
    unfold f_M_nodes_14 at h
    refine av_iload_n K d_M_nodes_14 rfl rfl ?_
    refine av_aload_n K d_M_nodes_15 rfl rfl ?_
    obtain ⟨x1, ex1, h⟩ := hp_bd h
    refine hv_gi K fl_M_61 d_M_nodes_16 ex1 ?_
    refine av_icmp_ge (tgt := 109) K d_M_nodes_19 rfl (fun hc => ?_) (fun hc => ?_)
    · rw [if_pos hc] at h
      refine av_iload_n K d_M_nodes_109 rfl rfl ?_
      obtain rfl := Option.some.inj h
      exact av_ireturn K hr d_M_nodes_110 rfl
    · rw [if_neg hc] at h
      refine av_iconst (v := (0 : Int32)) K d_M_nodes_22 (by decide) ?_
      refine av_istore_n (L' := [some (.ref v0), some (.int v1), some (.int v2), some (.int (0 : Int32)), none, none]) K d_M_nodes_23 rfl (Nat.le_of_ble_eq_true rfl) rfl ?_
      exact v_M_nodes_24 K G hr fu (f_M_nodes_14 fu n) ih fu (v0) (v1) (v2) ((0 : Int32)) _ h
set_option maxRecDepth 100000 in
set_option maxHeartbeats 4000000 in
theorem v_M_nodes (K : av_K p s m args meth c D cl8 ca A b_M_nodes 6 R_M WS) (G : av_G NS tabON A s s.heap) (hr : meth.sig.returnType = some .int) (fu : Nat) {r : Int32 × List va_E} (v0 : Nat) (w : List va_E) (h : f_M_nodes fu v0 w = some r) : av_VI p l e rm_M_nodes s m args below meth c D cl8 A ad ca 6 r 0 [some (.ref v0), none, none, none, none, none] [] w := by
  unfold f_M_nodes at h
  refine av_aload_n K d_M_nodes_0 rfl rfl ?_
  refine av_iconst (v := (1 : Int32)) K d_M_nodes_1 (by decide) ?_
  obtain ⟨_, eo2, h⟩ := hp_bd h
  obtain ⟨r1, er1, h⟩ := hp_bd h
  obtain ⟨fs2, ho2⟩ := hp_is_of eo2
  refine av_cVi K G (c_M_lacks (tab := tabON) er1) (cwV 1 K.2.2.2.2.1 (gV ml_M_90 im_M_lacks se_M_lacks in_M co_M_lacks) rfl rfl rfl cd_M_lacks ⟨Nat.le_of_ble_eq_true rfl, Nat.le_of_ble_eq_true rfl⟩) rfl ho2 rfl rfl (Nat.le_of_ble_eq_true rfl) d_M_nodes_2 ⟨Nat.zero_le _, Nat.zero_le _⟩ (fun a9 u9 h9 => ?_)
  obtain ⟨rfl, rfl⟩ : a9 = r1.1 ∧ u9 = r1.2 := ⟨congrArg Prod.fst h9, congrArg Prod.snd h9⟩
  refine av_if_eq (tgt := 10) K d_M_nodes_5 rfl (fun hc => ?_) (fun hc => ?_)
  · rw [if_pos hc] at h
    refine av_iconst (v := (0 : Int32)) K d_M_nodes_10 (by decide) ?_
    refine av_istore_n (L' := [some (.ref v0), some (.int (0 : Int32)), none, none, none, none]) K d_M_nodes_11 rfl (Nat.le_of_ble_eq_true rfl) rfl ?_
    refine av_iconst (v := (0 : Int32)) K d_M_nodes_12 (by decide) ?_
    refine av_istore_n (L' := [some (.ref v0), some (.int (0 : Int32)), some (.int (0 : Int32)), none, none, none]) K d_M_nodes_13 rfl (Nat.le_of_ble_eq_true rfl) rfl ?_
    exact v_M_nodes_14 K G hr fu fu (v0) ((0 : Int32)) ((0 : Int32)) _ h
  · rw [if_neg hc] at h
    refine av_iconst (v := (0 : Int32)) K d_M_nodes_8 (by decide) ?_
    obtain rfl := Option.some.inj h
    exact av_ireturn K hr d_M_nodes_9 rfl
end
set_option maxRecDepth 100000 in
theorem c_M_nodes {l : Launch} {D : va_G} {ca : Nat → Nat} {tab : Nat → Int64} {fu : Nat} {v0 : Nat} {w : List va_E} {r : Int32 × List va_E} (h : f_M_nodes fu v0 w = some r) : av_Ci l D cl8 ca NS tabON y_M_nodes w_M_nodes rm_M_nodes [.ref v0] w (fun v u => (v, u) = r) :=
  av_inI (cc := b_M_nodes) (nL := 6) (by decide +kernel) rfl (Nat.le_of_ble_eq_true rfl) (fun p e s m args below meth c A ad K G hr => v_M_nodes K G hr fu v0 w h)

-- FaultTreeDeskModel.power(I)I
theorem d_M_power_0 : decode b_M_power 0 = .ok (.iconst 1, 1) := by decide +kernel
theorem d_M_power_1 : decode b_M_power 1 = .ok (.istore_n 1, 1) := by decide +kernel
theorem d_M_power_2 : decode b_M_power 2 = .ok (.iconst 0, 1) := by decide +kernel
theorem d_M_power_3 : decode b_M_power 3 = .ok (.istore_n 2, 1) := by decide +kernel
theorem d_M_power_4 : decode b_M_power 4 = .ok (.iload_n 2, 1) := by decide +kernel
theorem d_M_power_5 : decode b_M_power 5 = .ok (.iload_n 0, 1) := by decide +kernel
theorem d_M_power_6 : decode b_M_power 6 = .ok (.if_icmp .ge 13, 3) := by decide +kernel
theorem d_M_power_9 : decode b_M_power 9 = .ok (.iconst 3, 1) := by decide +kernel
theorem d_M_power_10 : decode b_M_power 10 = .ok (.iload_n 1, 1) := by decide +kernel
theorem d_M_power_11 : decode b_M_power 11 = .ok (.imul, 1) := by decide +kernel
theorem d_M_power_12 : decode b_M_power 12 = .ok (.istore_n 1, 1) := by decide +kernel
theorem d_M_power_13 : decode b_M_power 13 = .ok (.iinc 2 1, 3) := by decide +kernel
theorem d_M_power_16 : decode b_M_power 16 = .ok (.goto (-12), 3) := by decide +kernel
theorem d_M_power_19 : decode b_M_power 19 = .ok (.iload_n 1, 1) := by decide +kernel
theorem d_M_power_20 : decode b_M_power 20 = .ok (.ireturn, 1) := by decide +kernel
def rm_M_power : Room := { frames := 0, cells := 0, slots := 0, locals := 0 }
def f_M_power_4 (fu : Nat) : Nat → Int32 → Int32 → Int32 → List va_E → Option (Int32 × List va_E)
  | 0, _, _, _, _ => none
  | n + 1, v0, v1, v2, w => (if v0 ≤ v2 then (some (v1, w)) else (f_M_power_4 fu n (v0) (((3 : Int32) * v1)) ((v2 + (1 : Int32))) w))
def f_M_power (fu : Nat) (v0 : Int32) (w : List va_E) : Option (Int32 × List va_E) := (f_M_power_4 fu fu (v0) ((1 : Int32)) ((0 : Int32)) w)
section
variable {p : Program} {l : Launch} {e : Env} {s : State} {m : MethodId} {args : Array Value} {below : List Frame} {meth : Method} {c : Code} {D : va_G} {ca : Nat → Nat} {A : Nat → Prop} {ad : Nat → Nat}
set_option maxRecDepth 100000 in
set_option maxHeartbeats 4000000 in
theorem v_M_power_4 (K : av_K p s m args meth c D cl8 ca A b_M_power 3 R_M WS) (G : av_G NS tabON A s s.heap) (hr : meth.sig.returnType = some .int) (fu : Nat) {r : Int32 × List va_E} : ∀ (n : Nat) (v0 : Int32) (v1 : Int32) (v2 : Int32) (w : List va_E), f_M_power_4 fu n v0 v1 v2 w = some r → av_VI p l e rm_M_power s m args below meth c D cl8 A ad ca 3 r 4 [some (.int v0), some (.int v1), some (.int v2)] [] w := by
  intro n
  induction n with
  | zero => intro _ _ _ _ h; cases h
  | succ n ih =>
    intro v0 v1 v2 w h
    unfold f_M_power_4 at h
    refine av_iload_n K d_M_power_4 rfl rfl ?_
    refine av_iload_n K d_M_power_5 rfl rfl ?_
    refine av_icmp_ge (tgt := 19) K d_M_power_6 rfl (fun hc => ?_) (fun hc => ?_)
    · rw [if_pos hc] at h
      refine av_iload_n K d_M_power_19 rfl rfl ?_
      obtain rfl := Option.some.inj h
      exact av_ireturn K hr d_M_power_20 rfl
    · rw [if_neg hc] at h
      refine av_iconst (v := (3 : Int32)) K d_M_power_9 (by decide) ?_
      refine av_iload_n K d_M_power_10 rfl rfl ?_
      refine av_imul K d_M_power_11 ?_
      refine av_istore_n (L' := [some (.int v0), some (.int ((3 : Int32) * v1)), some (.int v2)]) K d_M_power_12 rfl (Nat.le_of_ble_eq_true rfl) rfl ?_
      refine av_iinc (v := (v2 + (1 : Int32))) (L' := [some (.int v0), some (.int ((3 : Int32) * v1)), some (.int (v2 + (1 : Int32)))]) K d_M_power_13 rfl (congrArg (fun z => v2 + z) (show Int32.ofInt 1 = (1 : Int32) by decide)) (Nat.le_of_ble_eq_true rfl) rfl ?_
      refine av_goto (tgt := 4) K d_M_power_16 rfl ?_
      exact ih (v0) (((3 : Int32) * v1)) ((v2 + (1 : Int32))) _ h
set_option maxRecDepth 100000 in
set_option maxHeartbeats 4000000 in
theorem v_M_power (K : av_K p s m args meth c D cl8 ca A b_M_power 3 R_M WS) (G : av_G NS tabON A s s.heap) (hr : meth.sig.returnType = some .int) (fu : Nat) {r : Int32 × List va_E} (v0 : Int32) (w : List va_E) (h : f_M_power fu v0 w = some r) : av_VI p l e rm_M_power s m args below meth c D cl8 A ad ca 3 r 0 [some (.int v0), none, none] [] w := by
  unfold f_M_power at h
  refine av_iconst (v := (1 : Int32)) K d_M_power_0 (by decide) ?_
  refine av_istore_n (L' := [some (.int v0), some (.int (1 : Int32)), none]) K d_M_power_1 rfl (Nat.le_of_ble_eq_true rfl) rfl ?_
  refine av_iconst (v := (0 : Int32)) K d_M_power_2 (by decide) ?_
  refine av_istore_n (L' := [some (.int v0), some (.int (1 : Int32)), some (.int (0 : Int32))]) K d_M_power_3 rfl (Nat.le_of_ble_eq_true rfl) rfl ?_
  exact v_M_power_4 K G hr fu fu (v0) ((1 : Int32)) ((0 : Int32)) _ h
end
set_option maxRecDepth 100000 in
theorem c_M_power {l : Launch} {D : va_G} {ca : Nat → Nat} {tab : Nat → Int64} {fu : Nat} {v0 : Int32} {w : List va_E} {r : Int32 × List va_E} (h : f_M_power fu v0 w = some r) : av_Ci l D cl8 ca NS tabON y_M_power w_M_power rm_M_power [.int v0] w (fun v u => (v, u) = r) :=
  av_inI (cc := b_M_power) (nL := 3) (by decide +kernel) rfl (Nat.le_of_ble_eq_true rfl) (fun p e s m args below meth c A ad K G hr => v_M_power K G hr fu v0 w h)

-- FaultTreeDeskModel.isCause(I)Z
theorem d_M_isCause_0 : decode b_M_isCause 0 = .ok (.aload_n 0, 1) := by decide +kernel
theorem d_M_isCause_1 : decode b_M_isCause 1 = .ok (.getfield 48, 3) := by decide +kernel
theorem d_M_isCause_4 : decode b_M_isCause 4 = .ok (.iload_n 1, 1) := by decide +kernel
theorem d_M_isCause_5 : decode b_M_isCause 5 = .ok (.bipush 64, 2) := by decide +kernel
theorem d_M_isCause_7 : decode b_M_isCause 7 = .ok (.idiv, 1) := by decide +kernel
theorem d_M_isCause_8 : decode b_M_isCause 8 = .ok (.laload, 1) := by decide +kernel
theorem d_M_isCause_9 : decode b_M_isCause 9 = .ok (.iload_n 1, 1) := by decide +kernel
theorem d_M_isCause_10 : decode b_M_isCause 10 = .ok (.bipush 64, 2) := by decide +kernel
theorem d_M_isCause_12 : decode b_M_isCause 12 = .ok (.irem, 1) := by decide +kernel
theorem d_M_isCause_13 : decode b_M_isCause 13 = .ok (.lshr, 1) := by decide +kernel
theorem d_M_isCause_14 : decode b_M_isCause 14 = .ok (.lconst 1, 1) := by decide +kernel
theorem d_M_isCause_15 : decode b_M_isCause 15 = .ok (.land, 1) := by decide +kernel
theorem d_M_isCause_16 : decode b_M_isCause 16 = .ok (.lconst 1, 1) := by decide +kernel
theorem d_M_isCause_17 : decode b_M_isCause 17 = .ok (.lcmp, 1) := by decide +kernel
theorem d_M_isCause_18 : decode b_M_isCause 18 = .ok (.ifCond .ne 7, 3) := by decide +kernel
theorem d_M_isCause_21 : decode b_M_isCause 21 = .ok (.iconst 1, 1) := by decide +kernel
theorem d_M_isCause_22 : decode b_M_isCause 22 = .ok (.goto 4, 3) := by decide +kernel
theorem d_M_isCause_25 : decode b_M_isCause 25 = .ok (.iconst 0, 1) := by decide +kernel
theorem d_M_isCause_26 : decode b_M_isCause 26 = .ok (.ireturn, 1) := by decide +kernel
def rm_M_isCause : Room := { frames := 0, cells := 0, slots := 0, locals := 0 }
def f_M_isCause_26 (fu : Nat) (s0 : Int32) (w : List va_E) : Option (Int32 × List va_E) := (if s0 = 0 ∨ s0 = 1 then some (s0, w) else none)
def f_M_isCause (fu : Nat) (v0 : Nat) (v1 : Int32) (w : List va_E) : Option (Int32 × List va_E) := ((hp_gr w v0 7 15).bind fun q1 => ((hp_rl w q1 (v1 / (64 : Int32))).bind fun y2 => (if (lg_cmp ((y2 >>> (((v1 - v1 / (64 : Int32) * (64 : Int32))).toInt64 &&& 63)) &&& (1 : Int64)) (1 : Int64)) = 0 then (f_M_isCause_26 fu ((1 : Int32)) w) else (f_M_isCause_26 fu ((0 : Int32)) w))))
section
variable {p : Program} {l : Launch} {e : Env} {s : State} {m : MethodId} {args : Array Value} {below : List Frame} {meth : Method} {c : Code} {D : va_G} {ca : Nat → Nat} {A : Nat → Prop} {ad : Nat → Nat}
set_option maxRecDepth 100000 in
set_option maxHeartbeats 4000000 in
theorem v_M_isCause_26 (K : av_K p s m args meth c D cl8 ca A b_M_isCause 2 R_M WS) (G : av_G NS tabON A s s.heap) (hr : meth.sig.returnType = some .boolean) (fu : Nat) {r : Int32 × List va_E} (s0 : Int32) (w : List va_E) (h : f_M_isCause_26 fu s0 w = some r) : av_VI p l e rm_M_isCause s m args below meth c D cl8 A ad ca 2 r 26 [none, none] [.int s0] w := by
  unfold f_M_isCause_26 at h
  obtain ⟨hz, h⟩ := hp_if h
  obtain rfl := Option.some.inj h
  exact av_zreturn K hr (hp_nz hz) d_M_isCause_26 rfl
set_option maxRecDepth 100000 in
set_option maxHeartbeats 4000000 in
theorem v_M_isCause (K : av_K p s m args meth c D cl8 ca A b_M_isCause 2 R_M WS) (G : av_G NS tabON A s s.heap) (hr : meth.sig.returnType = some .boolean) (fu : Nat) {r : Int32 × List va_E} (v0 : Nat) (v1 : Int32) (w : List va_E) (h : f_M_isCause fu v0 v1 w = some r) : av_VI p l e rm_M_isCause s m args below meth c D cl8 A ad ca 2 r 0 [some (.ref v0), some (.int v1)] [] w := by
  unfold f_M_isCause at h
  refine av_aload_n K d_M_isCause_0 rfl rfl ?_
  obtain ⟨q1, eq1, h⟩ := hp_bd h
  refine hv_gr K fl_M_48 d_M_isCause_1 eq1 ?_
  refine av_iload_n K d_M_isCause_4 rfl rfl ?_
  refine av_bipush (v := (64 : Int32)) K d_M_isCause_5 (by decide) ?_
  refine av_idiv K d_M_isCause_7 (by decide) ?_
  obtain ⟨y2, ey2, h⟩ := hp_bd h
  refine hv_rl K d_M_isCause_8 ey2 ?_
  refine av_iload_n K d_M_isCause_9 rfl rfl ?_
  refine av_bipush (v := (64 : Int32)) K d_M_isCause_10 (by decide) ?_
  refine av_irem K d_M_isCause_12 (by decide) ?_
  refine av_lshr K d_M_isCause_13 ?_
  refine av_lconst (v := (1 : Int64)) K d_M_isCause_14 (by decide) ?_
  refine av_land K d_M_isCause_15 ?_
  refine av_lconst (v := (1 : Int64)) K d_M_isCause_16 (by decide) ?_
  refine av_lcmp K d_M_isCause_17 ?_
  refine av_if_ne (tgt := 25) K d_M_isCause_18 rfl (fun hc => ?_) (fun hc => ?_)
  · rw [if_neg hc] at h
    refine av_iconst (v := (0 : Int32)) K d_M_isCause_25 (by decide) ?_
    refine hv_fg (L' := [none, none]) [0, 1] rfl ?_
    exact v_M_isCause_26 K G hr fu ((0 : Int32)) _ h
  · rw [if_pos hc] at h
    refine av_iconst (v := (1 : Int32)) K d_M_isCause_21 (by decide) ?_
    refine av_goto (tgt := 26) K d_M_isCause_22 rfl ?_
    refine hv_fg (L' := [none, none]) [0, 1] rfl ?_
    exact v_M_isCause_26 K G hr fu ((1 : Int32)) _ h
end
set_option maxRecDepth 100000 in
theorem c_M_isCause {l : Launch} {D : va_G} {ca : Nat → Nat} {tab : Nat → Int64} {fu : Nat} {v0 : Nat} {v1 : Int32} {w : List va_E} {r : Int32 × List va_E} (h : f_M_isCause fu v0 v1 w = some r) : av_Ci l D cl8 ca NS tabON y_M_isCause w_M_isCause rm_M_isCause [.ref v0, .int v1] w (fun v u => (v, u) = r) :=
  av_inI (cc := b_M_isCause) (nL := 2) (by decide +kernel) rfl (Nat.le_of_ble_eq_true rfl) (fun p e s m args below meth c A ad K G hr => v_M_isCause K G hr fu v0 v1 w h)

-- FaultTreeDeskModel.settingOf(I)I
theorem d_M_settingOf_0 : decode b_M_settingOf 0 = .ok (.iconst 0, 1) := by decide +kernel
theorem d_M_settingOf_1 : decode b_M_settingOf 1 = .ok (.istore_n 2, 1) := by decide +kernel
theorem d_M_settingOf_2 : decode b_M_settingOf 2 = .ok (.iload_n 1, 1) := by decide +kernel
theorem d_M_settingOf_3 : decode b_M_settingOf 3 = .ok (.istore_n 3, 1) := by decide +kernel
theorem d_M_settingOf_4 : decode b_M_settingOf 4 = .ok (.iconst 0, 1) := by decide +kernel
theorem d_M_settingOf_5 : decode b_M_settingOf 5 = .ok (.istore 4, 2) := by decide +kernel
theorem d_M_settingOf_7 : decode b_M_settingOf 7 = .ok (.iload 4, 2) := by decide +kernel
theorem d_M_settingOf_9 : decode b_M_settingOf 9 = .ok (.aload_n 0, 1) := by decide +kernel
theorem d_M_settingOf_10 : decode b_M_settingOf 10 = .ok (.getfield 61, 3) := by decide +kernel
theorem d_M_settingOf_13 : decode b_M_settingOf 13 = .ok (.if_icmp .ge 34, 3) := by decide +kernel
theorem d_M_settingOf_16 : decode b_M_settingOf 16 = .ok (.iload_n 3, 1) := by decide +kernel
theorem d_M_settingOf_17 : decode b_M_settingOf 17 = .ok (.iconst 3, 1) := by decide +kernel
theorem d_M_settingOf_18 : decode b_M_settingOf 18 = .ok (.irem, 1) := by decide +kernel
theorem d_M_settingOf_19 : decode b_M_settingOf 19 = .ok (.iconst 2, 1) := by decide +kernel
theorem d_M_settingOf_20 : decode b_M_settingOf 20 = .ok (.if_icmp .ne 8, 3) := by decide +kernel
theorem d_M_settingOf_23 : decode b_M_settingOf 23 = .ok (.iconst (-1), 1) := by decide +kernel
theorem d_M_settingOf_24 : decode b_M_settingOf 24 = .ok (.iload 4, 2) := by decide +kernel
theorem d_M_settingOf_26 : decode b_M_settingOf 26 = .ok (.isub, 1) := by decide +kernel
theorem d_M_settingOf_27 : decode b_M_settingOf 27 = .ok (.ireturn, 1) := by decide +kernel
theorem d_M_settingOf_28 : decode b_M_settingOf 28 = .ok (.iload_n 2, 1) := by decide +kernel
theorem d_M_settingOf_29 : decode b_M_settingOf 29 = .ok (.iload_n 3, 1) := by decide +kernel
theorem d_M_settingOf_30 : decode b_M_settingOf 30 = .ok (.iconst 3, 1) := by decide +kernel
theorem d_M_settingOf_31 : decode b_M_settingOf 31 = .ok (.irem, 1) := by decide +kernel
theorem d_M_settingOf_32 : decode b_M_settingOf 32 = .ok (.iload 4, 2) := by decide +kernel
theorem d_M_settingOf_34 : decode b_M_settingOf 34 = .ok (.ishl, 1) := by decide +kernel
theorem d_M_settingOf_35 : decode b_M_settingOf 35 = .ok (.ior, 1) := by decide +kernel
theorem d_M_settingOf_36 : decode b_M_settingOf 36 = .ok (.istore_n 2, 1) := by decide +kernel
theorem d_M_settingOf_37 : decode b_M_settingOf 37 = .ok (.iload_n 3, 1) := by decide +kernel
theorem d_M_settingOf_38 : decode b_M_settingOf 38 = .ok (.iconst 3, 1) := by decide +kernel
theorem d_M_settingOf_39 : decode b_M_settingOf 39 = .ok (.idiv, 1) := by decide +kernel
theorem d_M_settingOf_40 : decode b_M_settingOf 40 = .ok (.istore_n 3, 1) := by decide +kernel
theorem d_M_settingOf_41 : decode b_M_settingOf 41 = .ok (.iinc 4 1, 3) := by decide +kernel
theorem d_M_settingOf_44 : decode b_M_settingOf 44 = .ok (.goto (-37), 3) := by decide +kernel
theorem d_M_settingOf_47 : decode b_M_settingOf 47 = .ok (.iload_n 2, 1) := by decide +kernel
theorem d_M_settingOf_48 : decode b_M_settingOf 48 = .ok (.ireturn, 1) := by decide +kernel
def rm_M_settingOf : Room := { frames := 0, cells := 0, slots := 0, locals := 0 }
def f_M_settingOf_7 (fu : Nat) : Nat → Nat → Int32 → Int32 → Int32 → List va_E → Option (Int32 × List va_E)
  | 0, _, _, _, _, _ => none
  | n + 1, v0, v2, v3, v4, w => ((hp_gi w v0 7 1).bind fun x1 => (if x1 ≤ v4 then (some (v2, w)) else (if (v3 - v3 / (3 : Int32) * (3 : Int32)) = (2 : Int32) then (some (((-1 : Int32) - v4), w)) else (f_M_settingOf_7 fu n (v0) ((v2 ||| ((v3 - v3 / (3 : Int32) * (3 : Int32)) <<< (v4 &&& 31)))) ((v3 / (3 : Int32))) ((v4 + (1 : Int32))) w))))
def f_M_settingOf (fu : Nat) (v0 : Nat) (v1 : Int32) (w : List va_E) : Option (Int32 × List va_E) := (f_M_settingOf_7 fu fu (v0) ((0 : Int32)) (v1) ((0 : Int32)) w)
section
variable {p : Program} {l : Launch} {e : Env} {s : State} {m : MethodId} {args : Array Value} {below : List Frame} {meth : Method} {c : Code} {D : va_G} {ca : Nat → Nat} {A : Nat → Prop} {ad : Nat → Nat}
set_option maxRecDepth 100000 in
set_option maxHeartbeats 4000000 in
theorem v_M_settingOf_7 (K : av_K p s m args meth c D cl8 ca A b_M_settingOf 5 R_M WS) (G : av_G NS tabON A s s.heap) (hr : meth.sig.returnType = some .int) (fu : Nat) {r : Int32 × List va_E} : ∀ (n : Nat) (v0 : Nat) (v2 : Int32) (v3 : Int32) (v4 : Int32) (w : List va_E), f_M_settingOf_7 fu n v0 v2 v3 v4 w = some r → av_VI p l e rm_M_settingOf s m args below meth c D cl8 A ad ca 5 r 7 [some (.ref v0), none, some (.int v2), some (.int v3), some (.int v4)] [] w := by
  intro n
  induction n with
  | zero => intro _ _ _ _ _ h; cases h
  | succ n ih =>
    intro v0 v2 v3 v4 w h
    unfold f_M_settingOf_7 at h
    refine av_iload K d_M_settingOf_7 rfl ?_
    refine av_aload_n K d_M_settingOf_9 rfl rfl ?_
    obtain ⟨x1, ex1, h⟩ := hp_bd h
    refine hv_gi K fl_M_61 d_M_settingOf_10 ex1 ?_
    refine av_icmp_ge (tgt := 47) K d_M_settingOf_13 rfl (fun hc => ?_) (fun hc => ?_)
    · rw [if_pos hc] at h
      refine av_iload_n K d_M_settingOf_47 rfl rfl ?_
      obtain rfl := Option.some.inj h
      exact av_ireturn K hr d_M_settingOf_48 rfl
    · rw [if_neg hc] at h
      refine av_iload_n K d_M_settingOf_16 rfl rfl ?_
      refine av_iconst (v := (3 : Int32)) K d_M_settingOf_17 (by decide) ?_
      refine av_irem K d_M_settingOf_18 (by decide) ?_
      refine av_iconst (v := (2 : Int32)) K d_M_settingOf_19 (by decide) ?_
      refine av_icmp_ne (tgt := 28) K d_M_settingOf_20 rfl (fun hc => ?_) (fun hc => ?_)
      · rw [if_neg hc] at h
        refine av_iload_n K d_M_settingOf_28 rfl rfl ?_
        refine av_iload_n K d_M_settingOf_29 rfl rfl ?_
        refine av_iconst (v := (3 : Int32)) K d_M_settingOf_30 (by decide) ?_
        refine av_irem K d_M_settingOf_31 (by decide) ?_
        refine av_iload K d_M_settingOf_32 rfl ?_
        refine av_ishl K d_M_settingOf_34 ?_
        refine av_ior K d_M_settingOf_35 ?_
        refine av_istore_n (L' := [some (.ref v0), none, some (.int (v2 ||| ((v3 - v3 / (3 : Int32) * (3 : Int32)) <<< (v4 &&& 31)))), some (.int v3), some (.int v4)]) K d_M_settingOf_36 rfl (Nat.le_of_ble_eq_true rfl) rfl ?_
        refine av_iload_n K d_M_settingOf_37 rfl rfl ?_
        refine av_iconst (v := (3 : Int32)) K d_M_settingOf_38 (by decide) ?_
        refine av_idiv K d_M_settingOf_39 (by decide) ?_
        refine av_istore_n (L' := [some (.ref v0), none, some (.int (v2 ||| ((v3 - v3 / (3 : Int32) * (3 : Int32)) <<< (v4 &&& 31)))), some (.int (v3 / (3 : Int32))), some (.int v4)]) K d_M_settingOf_40 rfl (Nat.le_of_ble_eq_true rfl) rfl ?_
        refine av_iinc (v := (v4 + (1 : Int32))) (L' := [some (.ref v0), none, some (.int (v2 ||| ((v3 - v3 / (3 : Int32) * (3 : Int32)) <<< (v4 &&& 31)))), some (.int (v3 / (3 : Int32))), some (.int (v4 + (1 : Int32)))]) K d_M_settingOf_41 rfl (congrArg (fun z => v4 + z) (show Int32.ofInt 1 = (1 : Int32) by decide)) (Nat.le_of_ble_eq_true rfl) rfl ?_
        refine av_goto (tgt := 7) K d_M_settingOf_44 rfl ?_
        exact ih (v0) ((v2 ||| ((v3 - v3 / (3 : Int32) * (3 : Int32)) <<< (v4 &&& 31)))) ((v3 / (3 : Int32))) ((v4 + (1 : Int32))) _ h
      · rw [if_pos hc] at h
        refine av_iconst (v := (-1 : Int32)) K d_M_settingOf_23 (by decide) ?_
        refine av_iload K d_M_settingOf_24 rfl ?_
        refine av_isub K d_M_settingOf_26 ?_
        obtain rfl := Option.some.inj h
        exact av_ireturn K hr d_M_settingOf_27 rfl
set_option maxRecDepth 100000 in
set_option maxHeartbeats 4000000 in
theorem v_M_settingOf (K : av_K p s m args meth c D cl8 ca A b_M_settingOf 5 R_M WS) (G : av_G NS tabON A s s.heap) (hr : meth.sig.returnType = some .int) (fu : Nat) {r : Int32 × List va_E} (v0 : Nat) (v1 : Int32) (w : List va_E) (h : f_M_settingOf fu v0 v1 w = some r) : av_VI p l e rm_M_settingOf s m args below meth c D cl8 A ad ca 5 r 0 [some (.ref v0), some (.int v1), none, none, none] [] w := by
  unfold f_M_settingOf at h
  refine av_iconst (v := (0 : Int32)) K d_M_settingOf_0 (by decide) ?_
  refine av_istore_n (L' := [some (.ref v0), some (.int v1), some (.int (0 : Int32)), none, none]) K d_M_settingOf_1 rfl (Nat.le_of_ble_eq_true rfl) rfl ?_
  refine av_iload_n K d_M_settingOf_2 rfl rfl ?_
  refine av_istore_n (L' := [some (.ref v0), some (.int v1), some (.int (0 : Int32)), some (.int v1), none]) K d_M_settingOf_3 rfl (Nat.le_of_ble_eq_true rfl) rfl ?_
  refine av_iconst (v := (0 : Int32)) K d_M_settingOf_4 (by decide) ?_
  refine av_istore (L' := [some (.ref v0), some (.int v1), some (.int (0 : Int32)), some (.int v1), some (.int (0 : Int32))]) K d_M_settingOf_5 (Nat.le_of_ble_eq_true rfl) rfl ?_
  refine hv_fg (L' := [some (.ref v0), none, some (.int (0 : Int32)), some (.int v1), some (.int (0 : Int32))]) [1] rfl ?_
  exact v_M_settingOf_7 K G hr fu fu (v0) ((0 : Int32)) (v1) ((0 : Int32)) _ h
end
set_option maxRecDepth 100000 in
theorem c_M_settingOf {l : Launch} {D : va_G} {ca : Nat → Nat} {tab : Nat → Int64} {fu : Nat} {v0 : Nat} {v1 : Int32} {w : List va_E} {r : Int32 × List va_E} (h : f_M_settingOf fu v0 v1 w = some r) : av_Ci l D cl8 ca NS tabON y_M_settingOf w_M_settingOf rm_M_settingOf [.ref v0, .int v1] w (fun v u => (v, u) = r) :=
  av_inI (cc := b_M_settingOf) (nL := 5) (by decide +kernel) rfl (Nat.le_of_ble_eq_true rfl) (fun p e s m args below meth c A ad K G hr => v_M_settingOf K G hr fu v0 v1 w h)

-- FaultTreeDeskModel.isPrime(I)Z
theorem d_M_isPrime_0 : decode b_M_isPrime 0 = .ok (.aload_n 0, 1) := by decide +kernel
theorem d_M_isPrime_1 : decode b_M_isPrime 1 = .ok (.iload_n 1, 1) := by decide +kernel
theorem d_M_isPrime_2 : decode b_M_isPrime 2 = .ok (.invokevirtual 106, 3) := by decide +kernel
theorem d_M_isPrime_5 : decode b_M_isPrime 5 = .ok (.istore_n 2, 1) := by decide +kernel
theorem d_M_isPrime_6 : decode b_M_isPrime 6 = .ok (.iload_n 1, 1) := by decide +kernel
theorem d_M_isPrime_7 : decode b_M_isPrime 7 = .ok (.istore_n 3, 1) := by decide +kernel
theorem d_M_isPrime_8 : decode b_M_isPrime 8 = .ok (.iconst 1, 1) := by decide +kernel
theorem d_M_isPrime_9 : decode b_M_isPrime 9 = .ok (.istore 4, 2) := by decide +kernel
theorem d_M_isPrime_11 : decode b_M_isPrime 11 = .ok (.iconst 0, 1) := by decide +kernel
theorem d_M_isPrime_12 : decode b_M_isPrime 12 = .ok (.istore 5, 2) := by decide +kernel
theorem d_M_isPrime_14 : decode b_M_isPrime 14 = .ok (.iload 5, 2) := by decide +kernel
theorem d_M_isPrime_16 : decode b_M_isPrime 16 = .ok (.aload_n 0, 1) := by decide +kernel
theorem d_M_isPrime_17 : decode b_M_isPrime 17 = .ok (.getfield 61, 3) := by decide +kernel
theorem d_M_isPrime_20 : decode b_M_isPrime 20 = .ok (.if_icmp .ge 56, 3) := by decide +kernel
theorem d_M_isPrime_23 : decode b_M_isPrime 23 = .ok (.iload_n 3, 1) := by decide +kernel
theorem d_M_isPrime_24 : decode b_M_isPrime 24 = .ok (.iconst 3, 1) := by decide +kernel
theorem d_M_isPrime_25 : decode b_M_isPrime 25 = .ok (.irem, 1) := by decide +kernel
theorem d_M_isPrime_26 : decode b_M_isPrime 26 = .ok (.istore 6, 2) := by decide +kernel
theorem d_M_isPrime_28 : decode b_M_isPrime 28 = .ok (.iload_n 2, 1) := by decide +kernel
theorem d_M_isPrime_29 : decode b_M_isPrime 29 = .ok (.ifCond .eq 29, 3) := by decide +kernel
theorem d_M_isPrime_32 : decode b_M_isPrime 32 = .ok (.iload 6, 2) := by decide +kernel
theorem d_M_isPrime_34 : decode b_M_isPrime 34 = .ok (.iconst 2, 1) := by decide +kernel
theorem d_M_isPrime_35 : decode b_M_isPrime 35 = .ok (.if_icmp .eq 19, 3) := by decide +kernel
theorem d_M_isPrime_38 : decode b_M_isPrime 38 = .ok (.aload_n 0, 1) := by decide +kernel
theorem d_M_isPrime_39 : decode b_M_isPrime 39 = .ok (.iload_n 1, 1) := by decide +kernel
theorem d_M_isPrime_40 : decode b_M_isPrime 40 = .ok (.iconst 2, 1) := by decide +kernel
theorem d_M_isPrime_41 : decode b_M_isPrime 41 = .ok (.iload 6, 2) := by decide +kernel
theorem d_M_isPrime_43 : decode b_M_isPrime 43 = .ok (.isub, 1) := by decide +kernel
theorem d_M_isPrime_44 : decode b_M_isPrime 44 = .ok (.iload 4, 2) := by decide +kernel
theorem d_M_isPrime_46 : decode b_M_isPrime 46 = .ok (.imul, 1) := by decide +kernel
theorem d_M_isPrime_47 : decode b_M_isPrime 47 = .ok (.iadd, 1) := by decide +kernel
theorem d_M_isPrime_48 : decode b_M_isPrime 48 = .ok (.invokevirtual 106, 3) := by decide +kernel
theorem d_M_isPrime_51 : decode b_M_isPrime 51 = .ok (.ifCond .ne 7, 3) := by decide +kernel
theorem d_M_isPrime_54 : decode b_M_isPrime 54 = .ok (.iconst 1, 1) := by decide +kernel
theorem d_M_isPrime_55 : decode b_M_isPrime 55 = .ok (.goto 4, 3) := by decide +kernel
theorem d_M_isPrime_58 : decode b_M_isPrime 58 = .ok (.iconst 0, 1) := by decide +kernel
theorem d_M_isPrime_59 : decode b_M_isPrime 59 = .ok (.istore_n 2, 1) := by decide +kernel
theorem d_M_isPrime_60 : decode b_M_isPrime 60 = .ok (.iload_n 3, 1) := by decide +kernel
theorem d_M_isPrime_61 : decode b_M_isPrime 61 = .ok (.iconst 3, 1) := by decide +kernel
theorem d_M_isPrime_62 : decode b_M_isPrime 62 = .ok (.idiv, 1) := by decide +kernel
theorem d_M_isPrime_63 : decode b_M_isPrime 63 = .ok (.istore_n 3, 1) := by decide +kernel
theorem d_M_isPrime_64 : decode b_M_isPrime 64 = .ok (.iconst 3, 1) := by decide +kernel
theorem d_M_isPrime_65 : decode b_M_isPrime 65 = .ok (.iload 4, 2) := by decide +kernel
theorem d_M_isPrime_67 : decode b_M_isPrime 67 = .ok (.imul, 1) := by decide +kernel
theorem d_M_isPrime_68 : decode b_M_isPrime 68 = .ok (.istore 4, 2) := by decide +kernel
theorem d_M_isPrime_70 : decode b_M_isPrime 70 = .ok (.iinc 5 1, 3) := by decide +kernel
theorem d_M_isPrime_73 : decode b_M_isPrime 73 = .ok (.goto (-59), 3) := by decide +kernel
theorem d_M_isPrime_76 : decode b_M_isPrime 76 = .ok (.iload_n 2, 1) := by decide +kernel
theorem d_M_isPrime_77 : decode b_M_isPrime 77 = .ok (.ireturn, 1) := by decide +kernel
def rm_M_isPrime : Room := { frames := 1, cells := 0, slots := 0, locals := 21 }
def f_M_isPrime_59 (fu : Nat) (k14 : Nat → Int32 → Int32 → Int32 → Int32 → Int32 → List va_E → Option (Int32 × List va_E)) (v0 : Nat) (v1 : Int32) (v3 : Int32) (v4 : Int32) (v5 : Int32) (s0 : Int32) (w : List va_E) : Option (Int32 × List va_E) := (k14 (v0) (v1) (s0) ((v3 / (3 : Int32))) (((3 : Int32) * v4)) ((v5 + (1 : Int32))) w)
def f_M_isPrime_58 (fu : Nat) (k14 : Nat → Int32 → Int32 → Int32 → Int32 → Int32 → List va_E → Option (Int32 × List va_E)) (v0 : Nat) (v1 : Int32) (v3 : Int32) (v4 : Int32) (v5 : Int32) (w : List va_E) : Option (Int32 × List va_E) := (f_M_isPrime_59 fu k14 (v0) (v1) (v3) (v4) (v5) ((0 : Int32)) w)
def f_M_isPrime_54 (fu : Nat) (k14 : Nat → Int32 → Int32 → Int32 → Int32 → Int32 → List va_E → Option (Int32 × List va_E)) (v0 : Nat) (v1 : Int32) (v3 : Int32) (v4 : Int32) (v5 : Int32) (w : List va_E) : Option (Int32 × List va_E) := (f_M_isPrime_59 fu k14 (v0) (v1) (v3) (v4) (v5) ((1 : Int32)) w)
def f_M_isPrime_14 (fu : Nat) : Nat → Nat → Int32 → Int32 → Int32 → Int32 → Int32 → List va_E → Option (Int32 × List va_E)
  | 0, _, _, _, _, _, _, _ => none
  | n + 1, v0, v1, v2, v3, v4, v5, w => ((hp_gi w v0 7 1).bind fun x1 => (if x1 ≤ v5 then (if v2 = 0 ∨ v2 = 1 then some (v2, w) else none) else (if v2 = 0 then (f_M_isPrime_58 fu (f_M_isPrime_14 fu n) (v0) (v1) (v3) (v4) (v5) w) else (if (v3 - v3 / (3 : Int32) * (3 : Int32)) = (2 : Int32) then (f_M_isPrime_54 fu (f_M_isPrime_14 fu n) (v0) (v1) (v3) (v4) (v5) w) else ((hp_is w v0 7).bind fun _ => ((f_M_isCause fu v0 (v1 + (((2 : Int32) - (v3 - v3 / (3 : Int32) * (3 : Int32))) * v4)) w).bind fun r2 => (if r2.1 = 0 then (f_M_isPrime_54 fu (f_M_isPrime_14 fu n) (v0) (v1) (v3) (v4) (v5) r2.2) else (f_M_isPrime_58 fu (f_M_isPrime_14 fu n) (v0) (v1) (v3) (v4) (v5) r2.2))))))))
def f_M_isPrime (fu : Nat) (v0 : Nat) (v1 : Int32) (w : List va_E) : Option (Int32 × List va_E) := ((hp_is w v0 7).bind fun _ => ((f_M_isCause fu v0 v1 w).bind fun r1 => (f_M_isPrime_14 fu fu (v0) (v1) (r1.1) (v1) ((1 : Int32)) ((0 : Int32)) r1.2)))
section
variable {p : Program} {l : Launch} {e : Env} {s : State} {m : MethodId} {args : Array Value} {below : List Frame} {meth : Method} {c : Code} {D : va_G} {ca : Nat → Nat} {A : Nat → Prop} {ad : Nat → Nat}
set_option maxRecDepth 100000 in
set_option maxHeartbeats 4000000 in
theorem v_M_isPrime_59 (K : av_K p s m args meth c D cl8 ca A b_M_isPrime 7 R_M WS) (G : av_G NS tabON A s s.heap) (hr : meth.sig.returnType = some .boolean) (fu : Nat) {r : Int32 × List va_E} (k14 : Nat → Int32 → Int32 → Int32 → Int32 → Int32 → List va_E → Option (Int32 × List va_E)) (hk14 : ∀ (v0 : Nat) (v1 : Int32) (v2 : Int32) (v3 : Int32) (v4 : Int32) (v5 : Int32) (w : List va_E), k14 v0 v1 v2 v3 v4 v5 w = some r → av_VI p l e rm_M_isPrime s m args below meth c D cl8 A ad ca 7 r 14 [some (.ref v0), some (.int v1), some (.int v2), some (.int v3), some (.int v4), some (.int v5), none] [] w) (v0 : Nat) (v1 : Int32) (v3 : Int32) (v4 : Int32) (v5 : Int32) (s0 : Int32) (w : List va_E) (h : f_M_isPrime_59 fu k14 v0 v1 v3 v4 v5 s0 w = some r) : av_VI p l e rm_M_isPrime s m args below meth c D cl8 A ad ca 7 r 59 [some (.ref v0), some (.int v1), none, some (.int v3), some (.int v4), some (.int v5), none] [.int s0] w := by
  unfold f_M_isPrime_59 at h
  refine av_istore_n (L' := [some (.ref v0), some (.int v1), some (.int s0), some (.int v3), some (.int v4), some (.int v5), none]) K d_M_isPrime_59 rfl (Nat.le_of_ble_eq_true rfl) rfl ?_
  refine av_iload_n K d_M_isPrime_60 rfl rfl ?_
  refine av_iconst (v := (3 : Int32)) K d_M_isPrime_61 (by decide) ?_
  refine av_idiv K d_M_isPrime_62 (by decide) ?_
  refine av_istore_n (L' := [some (.ref v0), some (.int v1), some (.int s0), some (.int (v3 / (3 : Int32))), some (.int v4), some (.int v5), none]) K d_M_isPrime_63 rfl (Nat.le_of_ble_eq_true rfl) rfl ?_
  refine av_iconst (v := (3 : Int32)) K d_M_isPrime_64 (by decide) ?_
  refine av_iload K d_M_isPrime_65 rfl ?_
  refine av_imul K d_M_isPrime_67 ?_
  refine av_istore (L' := [some (.ref v0), some (.int v1), some (.int s0), some (.int (v3 / (3 : Int32))), some (.int ((3 : Int32) * v4)), some (.int v5), none]) K d_M_isPrime_68 (Nat.le_of_ble_eq_true rfl) rfl ?_
  refine av_iinc (v := (v5 + (1 : Int32))) (L' := [some (.ref v0), some (.int v1), some (.int s0), some (.int (v3 / (3 : Int32))), some (.int ((3 : Int32) * v4)), some (.int (v5 + (1 : Int32))), none]) K d_M_isPrime_70 rfl (congrArg (fun z => v5 + z) (show Int32.ofInt 1 = (1 : Int32) by decide)) (Nat.le_of_ble_eq_true rfl) rfl ?_
  refine av_goto (tgt := 14) K d_M_isPrime_73 rfl ?_
  exact hk14 (v0) (v1) (s0) ((v3 / (3 : Int32))) (((3 : Int32) * v4)) ((v5 + (1 : Int32))) _ h
set_option maxRecDepth 100000 in
set_option maxHeartbeats 4000000 in
theorem v_M_isPrime_58 (K : av_K p s m args meth c D cl8 ca A b_M_isPrime 7 R_M WS) (G : av_G NS tabON A s s.heap) (hr : meth.sig.returnType = some .boolean) (fu : Nat) {r : Int32 × List va_E} (k14 : Nat → Int32 → Int32 → Int32 → Int32 → Int32 → List va_E → Option (Int32 × List va_E)) (hk14 : ∀ (v0 : Nat) (v1 : Int32) (v2 : Int32) (v3 : Int32) (v4 : Int32) (v5 : Int32) (w : List va_E), k14 v0 v1 v2 v3 v4 v5 w = some r → av_VI p l e rm_M_isPrime s m args below meth c D cl8 A ad ca 7 r 14 [some (.ref v0), some (.int v1), some (.int v2), some (.int v3), some (.int v4), some (.int v5), none] [] w) (v0 : Nat) (v1 : Int32) (v3 : Int32) (v4 : Int32) (v5 : Int32) (w : List va_E) (h : f_M_isPrime_58 fu k14 v0 v1 v3 v4 v5 w = some r) : av_VI p l e rm_M_isPrime s m args below meth c D cl8 A ad ca 7 r 58 [some (.ref v0), some (.int v1), none, some (.int v3), some (.int v4), some (.int v5), none] [] w := by
  unfold f_M_isPrime_58 at h
  refine av_iconst (v := (0 : Int32)) K d_M_isPrime_58 (by decide) ?_
  exact v_M_isPrime_59 K G hr fu k14 hk14 (v0) (v1) (v3) (v4) (v5) ((0 : Int32)) _ h
set_option maxRecDepth 100000 in
set_option maxHeartbeats 4000000 in
theorem v_M_isPrime_54 (K : av_K p s m args meth c D cl8 ca A b_M_isPrime 7 R_M WS) (G : av_G NS tabON A s s.heap) (hr : meth.sig.returnType = some .boolean) (fu : Nat) {r : Int32 × List va_E} (k14 : Nat → Int32 → Int32 → Int32 → Int32 → Int32 → List va_E → Option (Int32 × List va_E)) (hk14 : ∀ (v0 : Nat) (v1 : Int32) (v2 : Int32) (v3 : Int32) (v4 : Int32) (v5 : Int32) (w : List va_E), k14 v0 v1 v2 v3 v4 v5 w = some r → av_VI p l e rm_M_isPrime s m args below meth c D cl8 A ad ca 7 r 14 [some (.ref v0), some (.int v1), some (.int v2), some (.int v3), some (.int v4), some (.int v5), none] [] w) (v0 : Nat) (v1 : Int32) (v3 : Int32) (v4 : Int32) (v5 : Int32) (w : List va_E) (h : f_M_isPrime_54 fu k14 v0 v1 v3 v4 v5 w = some r) : av_VI p l e rm_M_isPrime s m args below meth c D cl8 A ad ca 7 r 54 [some (.ref v0), some (.int v1), none, some (.int v3), some (.int v4), some (.int v5), none] [] w := by
  unfold f_M_isPrime_54 at h
  refine av_iconst (v := (1 : Int32)) K d_M_isPrime_54 (by decide) ?_
  refine av_goto (tgt := 59) K d_M_isPrime_55 rfl ?_
  exact v_M_isPrime_59 K G hr fu k14 hk14 (v0) (v1) (v3) (v4) (v5) ((1 : Int32)) _ h
set_option maxRecDepth 100000 in
set_option maxHeartbeats 4000000 in
theorem v_M_isPrime_14 (K : av_K p s m args meth c D cl8 ca A b_M_isPrime 7 R_M WS) (G : av_G NS tabON A s s.heap) (hr : meth.sig.returnType = some .boolean) (fu : Nat) {r : Int32 × List va_E} : ∀ (n : Nat) (v0 : Nat) (v1 : Int32) (v2 : Int32) (v3 : Int32) (v4 : Int32) (v5 : Int32) (w : List va_E), f_M_isPrime_14 fu n v0 v1 v2 v3 v4 v5 w = some r → av_VI p l e rm_M_isPrime s m args below meth c D cl8 A ad ca 7 r 14 [some (.ref v0), some (.int v1), some (.int v2), some (.int v3), some (.int v4), some (.int v5), none] [] w := by
  intro n
  induction n with
  | zero => intro _ _ _ _ _ _ _ h; cases h
  | succ n ih =>
    intro v0 v1 v2 v3 v4 v5 w h
    unfold f_M_isPrime_14 at h
    refine av_iload K d_M_isPrime_14 rfl ?_
    refine av_aload_n K d_M_isPrime_16 rfl rfl ?_
    obtain ⟨x1, ex1, h⟩ := hp_bd h
    refine hv_gi K fl_M_61 d_M_isPrime_17 ex1 ?_
    refine av_icmp_ge (tgt := 76) K d_M_isPrime_20 rfl (fun hc => ?_) (fun hc => ?_)
    · rw [if_pos hc] at h
      refine av_iload_n K d_M_isPrime_76 rfl rfl ?_
      obtain ⟨hz, h⟩ := hp_if h
      obtain rfl := Option.some.inj h
      exact av_zreturn K hr (hp_nz hz) d_M_isPrime_77 rfl
    · rw [if_neg hc] at h
      refine av_iload_n K d_M_isPrime_23 rfl rfl ?_
      refine av_iconst (v := (3 : Int32)) K d_M_isPrime_24 (by decide) ?_
      refine av_irem K d_M_isPrime_25 (by decide) ?_
      refine av_istore (L' := [some (.ref v0), some (.int v1), some (.int v2), some (.int v3), some (.int v4), some (.int v5), some (.int (v3 - v3 / (3 : Int32) * (3 : Int32)))]) K d_M_isPrime_26 (Nat.le_of_ble_eq_true rfl) rfl ?_
      refine av_iload_n K d_M_isPrime_28 rfl rfl ?_
      refine av_if_eq (tgt := 58) K d_M_isPrime_29 rfl (fun hc => ?_) (fun hc => ?_)
      · rw [if_pos hc] at h
        refine hv_fg (L' := [some (.ref v0), some (.int v1), none, some (.int v3), some (.int v4), some (.int v5), none]) [2, 6] rfl ?_
        exact v_M_isPrime_58 K G hr fu (f_M_isPrime_14 fu n) ih (v0) (v1) (v3) (v4) (v5) _ h
      · rw [if_neg hc] at h
        refine av_iload K d_M_isPrime_32 rfl ?_
        refine av_iconst (v := (2 : Int32)) K d_M_isPrime_34 (by decide) ?_
        refine av_icmp_eq (tgt := 54) K d_M_isPrime_35 rfl (fun hc => ?_) (fun hc => ?_)
        · rw [if_pos hc] at h
          refine hv_fg (L' := [some (.ref v0), some (.int v1), none, some (.int v3), some (.int v4), some (.int v5), none]) [2, 6] rfl ?_
          exact v_M_isPrime_54 K G hr fu (f_M_isPrime_14 fu n) ih (v0) (v1) (v3) (v4) (v5) _ h
        · rw [if_neg hc] at h
          refine av_aload_n K d_M_isPrime_38 rfl rfl ?_
          refine av_iload_n K d_M_isPrime_39 rfl rfl ?_
          refine av_iconst (v := (2 : Int32)) K d_M_isPrime_40 (by decide) ?_
          refine av_iload K d_M_isPrime_41 rfl ?_
          refine av_isub K d_M_isPrime_43 ?_
          refine av_iload K d_M_isPrime_44 rfl ?_
          refine av_imul K d_M_isPrime_46 ?_
          refine av_iadd K d_M_isPrime_47 ?_
          obtain ⟨_, eo48, h⟩ := hp_bd h
          obtain ⟨r2, er2, h⟩ := hp_bd h
          obtain ⟨fs48, ho48⟩ := hp_is_of eo48
          refine av_cVi K G (c_M_isCause (tab := tabON) er2) (cwV 1 K.2.2.2.2.1 (gV ml_M_106 im_M_isCause se_M_isCause in_M co_M_isCause) rfl rfl rfl cd_M_isCause ⟨Nat.le_of_ble_eq_true rfl, Nat.le_of_ble_eq_true rfl⟩) rfl ho48 rfl rfl (Nat.le_of_ble_eq_true rfl) d_M_isPrime_48 ⟨Nat.zero_le _, Nat.zero_le _⟩ (fun a9 u9 h9 => ?_)
          obtain ⟨rfl, rfl⟩ : a9 = r2.1 ∧ u9 = r2.2 := ⟨congrArg Prod.fst h9, congrArg Prod.snd h9⟩
          refine av_if_ne (tgt := 58) K d_M_isPrime_51 rfl (fun hc => ?_) (fun hc => ?_)
          · rw [if_neg hc] at h
            refine hv_fg (L' := [some (.ref v0), some (.int v1), none, some (.int v3), some (.int v4), some (.int v5), none]) [2, 6] rfl ?_
            exact v_M_isPrime_58 K G hr fu (f_M_isPrime_14 fu n) ih (v0) (v1) (v3) (v4) (v5) _ h
          · rw [if_pos hc] at h
            refine hv_fg (L' := [some (.ref v0), some (.int v1), none, some (.int v3), some (.int v4), some (.int v5), none]) [2, 6] rfl ?_
            exact v_M_isPrime_54 K G hr fu (f_M_isPrime_14 fu n) ih (v0) (v1) (v3) (v4) (v5) _ h
set_option maxRecDepth 100000 in
set_option maxHeartbeats 4000000 in
theorem v_M_isPrime (K : av_K p s m args meth c D cl8 ca A b_M_isPrime 7 R_M WS) (G : av_G NS tabON A s s.heap) (hr : meth.sig.returnType = some .boolean) (fu : Nat) {r : Int32 × List va_E} (v0 : Nat) (v1 : Int32) (w : List va_E) (h : f_M_isPrime fu v0 v1 w = some r) : av_VI p l e rm_M_isPrime s m args below meth c D cl8 A ad ca 7 r 0 [some (.ref v0), some (.int v1), none, none, none, none, none] [] w := by
  unfold f_M_isPrime at h
  refine av_aload_n K d_M_isPrime_0 rfl rfl ?_
  refine av_iload_n K d_M_isPrime_1 rfl rfl ?_
  obtain ⟨_, eo2, h⟩ := hp_bd h
  obtain ⟨r1, er1, h⟩ := hp_bd h
  obtain ⟨fs2, ho2⟩ := hp_is_of eo2
  refine av_cVi K G (c_M_isCause (tab := tabON) er1) (cwV 1 K.2.2.2.2.1 (gV ml_M_106 im_M_isCause se_M_isCause in_M co_M_isCause) rfl rfl rfl cd_M_isCause ⟨Nat.le_of_ble_eq_true rfl, Nat.le_of_ble_eq_true rfl⟩) rfl ho2 rfl rfl (Nat.le_of_ble_eq_true rfl) d_M_isPrime_2 ⟨Nat.zero_le _, Nat.zero_le _⟩ (fun a9 u9 h9 => ?_)
  obtain ⟨rfl, rfl⟩ : a9 = r1.1 ∧ u9 = r1.2 := ⟨congrArg Prod.fst h9, congrArg Prod.snd h9⟩
  refine av_istore_n (L' := [some (.ref v0), some (.int v1), some (.int r1.1), none, none, none, none]) K d_M_isPrime_5 rfl (Nat.le_of_ble_eq_true rfl) rfl ?_
  refine av_iload_n K d_M_isPrime_6 rfl rfl ?_
  refine av_istore_n (L' := [some (.ref v0), some (.int v1), some (.int r1.1), some (.int v1), none, none, none]) K d_M_isPrime_7 rfl (Nat.le_of_ble_eq_true rfl) rfl ?_
  refine av_iconst (v := (1 : Int32)) K d_M_isPrime_8 (by decide) ?_
  refine av_istore (L' := [some (.ref v0), some (.int v1), some (.int r1.1), some (.int v1), some (.int (1 : Int32)), none, none]) K d_M_isPrime_9 (Nat.le_of_ble_eq_true rfl) rfl ?_
  refine av_iconst (v := (0 : Int32)) K d_M_isPrime_11 (by decide) ?_
  refine av_istore (L' := [some (.ref v0), some (.int v1), some (.int r1.1), some (.int v1), some (.int (1 : Int32)), some (.int (0 : Int32)), none]) K d_M_isPrime_12 (Nat.le_of_ble_eq_true rfl) rfl ?_
  exact v_M_isPrime_14 K G hr fu fu (v0) (v1) (r1.1) (v1) ((1 : Int32)) ((0 : Int32)) _ h
end
set_option maxRecDepth 100000 in
theorem c_M_isPrime {l : Launch} {D : va_G} {ca : Nat → Nat} {tab : Nat → Int64} {fu : Nat} {v0 : Nat} {v1 : Int32} {w : List va_E} {r : Int32 × List va_E} (h : f_M_isPrime fu v0 v1 w = some r) : av_Ci l D cl8 ca NS tabON y_M_isPrime w_M_isPrime rm_M_isPrime [.ref v0, .int v1] w (fun v u => (v, u) = r) :=
  av_inI (cc := b_M_isPrime) (nL := 7) (by decide +kernel) rfl (Nat.le_of_ble_eq_true rfl) (fun p e s m args below meth c A ad K G hr => v_M_isPrime K G hr fu v0 v1 w h)

-- FaultTreeDeskModel.eventsOf(II)I
theorem d_M_eventsOf_0 : decode b_M_eventsOf 0 = .ok (.iconst 0, 1) := by decide +kernel
theorem d_M_eventsOf_1 : decode b_M_eventsOf 1 = .ok (.istore_n 3, 1) := by decide +kernel
theorem d_M_eventsOf_2 : decode b_M_eventsOf 2 = .ok (.iload_n 1, 1) := by decide +kernel
theorem d_M_eventsOf_3 : decode b_M_eventsOf 3 = .ok (.istore 4, 2) := by decide +kernel
theorem d_M_eventsOf_5 : decode b_M_eventsOf 5 = .ok (.iconst 0, 1) := by decide +kernel
theorem d_M_eventsOf_6 : decode b_M_eventsOf 6 = .ok (.istore 5, 2) := by decide +kernel
theorem d_M_eventsOf_8 : decode b_M_eventsOf 8 = .ok (.iload 5, 2) := by decide +kernel
theorem d_M_eventsOf_10 : decode b_M_eventsOf 10 = .ok (.aload_n 0, 1) := by decide +kernel
theorem d_M_eventsOf_11 : decode b_M_eventsOf 11 = .ok (.getfield 61, 3) := by decide +kernel
theorem d_M_eventsOf_14 : decode b_M_eventsOf 14 = .ok (.if_icmp .ge 34, 3) := by decide +kernel
theorem d_M_eventsOf_17 : decode b_M_eventsOf 17 = .ok (.iload_n 3, 1) := by decide +kernel
theorem d_M_eventsOf_18 : decode b_M_eventsOf 18 = .ok (.iload 4, 2) := by decide +kernel
theorem d_M_eventsOf_20 : decode b_M_eventsOf 20 = .ok (.iconst 3, 1) := by decide +kernel
theorem d_M_eventsOf_21 : decode b_M_eventsOf 21 = .ok (.irem, 1) := by decide +kernel
theorem d_M_eventsOf_22 : decode b_M_eventsOf 22 = .ok (.iload_n 2, 1) := by decide +kernel
theorem d_M_eventsOf_23 : decode b_M_eventsOf 23 = .ok (.if_icmp .ne 10, 3) := by decide +kernel
theorem d_M_eventsOf_26 : decode b_M_eventsOf 26 = .ok (.iconst 1, 1) := by decide +kernel
theorem d_M_eventsOf_27 : decode b_M_eventsOf 27 = .ok (.iload 5, 2) := by decide +kernel
theorem d_M_eventsOf_29 : decode b_M_eventsOf 29 = .ok (.ishl, 1) := by decide +kernel
theorem d_M_eventsOf_30 : decode b_M_eventsOf 30 = .ok (.goto 4, 3) := by decide +kernel
theorem d_M_eventsOf_33 : decode b_M_eventsOf 33 = .ok (.iconst 0, 1) := by decide +kernel
theorem d_M_eventsOf_34 : decode b_M_eventsOf 34 = .ok (.ior, 1) := by decide +kernel
theorem d_M_eventsOf_35 : decode b_M_eventsOf 35 = .ok (.istore_n 3, 1) := by decide +kernel
theorem d_M_eventsOf_36 : decode b_M_eventsOf 36 = .ok (.iload 4, 2) := by decide +kernel
theorem d_M_eventsOf_38 : decode b_M_eventsOf 38 = .ok (.iconst 3, 1) := by decide +kernel
theorem d_M_eventsOf_39 : decode b_M_eventsOf 39 = .ok (.idiv, 1) := by decide +kernel
theorem d_M_eventsOf_40 : decode b_M_eventsOf 40 = .ok (.istore 4, 2) := by decide +kernel
theorem d_M_eventsOf_42 : decode b_M_eventsOf 42 = .ok (.iinc 5 1, 3) := by decide +kernel
theorem d_M_eventsOf_45 : decode b_M_eventsOf 45 = .ok (.goto (-37), 3) := by decide +kernel
theorem d_M_eventsOf_48 : decode b_M_eventsOf 48 = .ok (.iload_n 3, 1) := by decide +kernel
theorem d_M_eventsOf_49 : decode b_M_eventsOf 49 = .ok (.ireturn, 1) := by decide +kernel
def rm_M_eventsOf : Room := { frames := 0, cells := 0, slots := 0, locals := 0 }
def f_M_eventsOf_34 (fu : Nat) (k8 : Nat → Int32 → Int32 → Int32 → Int32 → List va_E → Option (Int32 × List va_E)) (v0 : Nat) (v2 : Int32) (v4 : Int32) (v5 : Int32) (s0 : Int32) (s1 : Int32) (w : List va_E) : Option (Int32 × List va_E) := (k8 (v0) (v2) ((s0 ||| s1)) ((v4 / (3 : Int32))) ((v5 + (1 : Int32))) w)
def f_M_eventsOf_8 (fu : Nat) : Nat → Nat → Int32 → Int32 → Int32 → Int32 → List va_E → Option (Int32 × List va_E)
  | 0, _, _, _, _, _, _ => none
  | n + 1, v0, v2, v3, v4, v5, w => ((hp_gi w v0 7 1).bind fun x1 => (if x1 ≤ v5 then (some (v3, w)) else (if (v4 - v4 / (3 : Int32) * (3 : Int32)) = v2 then (f_M_eventsOf_34 fu (f_M_eventsOf_8 fu n) (v0) (v2) (v4) (v5) (v3) (((1 : Int32) <<< (v5 &&& 31))) w) else (f_M_eventsOf_34 fu (f_M_eventsOf_8 fu n) (v0) (v2) (v4) (v5) (v3) ((0 : Int32)) w))))
def f_M_eventsOf (fu : Nat) (v0 : Nat) (v1 : Int32) (v2 : Int32) (w : List va_E) : Option (Int32 × List va_E) := (f_M_eventsOf_8 fu fu (v0) (v2) ((0 : Int32)) (v1) ((0 : Int32)) w)
section
variable {p : Program} {l : Launch} {e : Env} {s : State} {m : MethodId} {args : Array Value} {below : List Frame} {meth : Method} {c : Code} {D : va_G} {ca : Nat → Nat} {A : Nat → Prop} {ad : Nat → Nat}
set_option maxRecDepth 100000 in
set_option maxHeartbeats 4000000 in
theorem v_M_eventsOf_34 (K : av_K p s m args meth c D cl8 ca A b_M_eventsOf 6 R_M WS) (G : av_G NS tabON A s s.heap) (hr : meth.sig.returnType = some .int) (fu : Nat) {r : Int32 × List va_E} (k8 : Nat → Int32 → Int32 → Int32 → Int32 → List va_E → Option (Int32 × List va_E)) (hk8 : ∀ (v0 : Nat) (v2 : Int32) (v3 : Int32) (v4 : Int32) (v5 : Int32) (w : List va_E), k8 v0 v2 v3 v4 v5 w = some r → av_VI p l e rm_M_eventsOf s m args below meth c D cl8 A ad ca 6 r 8 [some (.ref v0), none, some (.int v2), some (.int v3), some (.int v4), some (.int v5)] [] w) (v0 : Nat) (v2 : Int32) (v4 : Int32) (v5 : Int32) (s0 : Int32) (s1 : Int32) (w : List va_E) (h : f_M_eventsOf_34 fu k8 v0 v2 v4 v5 s0 s1 w = some r) : av_VI p l e rm_M_eventsOf s m args below meth c D cl8 A ad ca 6 r 34 [some (.ref v0), none, some (.int v2), none, some (.int v4), some (.int v5)] [.int s1, .int s0] w := by
  unfold f_M_eventsOf_34 at h
  refine av_ior K d_M_eventsOf_34 ?_
  refine av_istore_n (L' := [some (.ref v0), none, some (.int v2), some (.int (s0 ||| s1)), some (.int v4), some (.int v5)]) K d_M_eventsOf_35 rfl (Nat.le_of_ble_eq_true rfl) rfl ?_
  refine av_iload K d_M_eventsOf_36 rfl ?_
  refine av_iconst (v := (3 : Int32)) K d_M_eventsOf_38 (by decide) ?_
  refine av_idiv K d_M_eventsOf_39 (by decide) ?_
  refine av_istore (L' := [some (.ref v0), none, some (.int v2), some (.int (s0 ||| s1)), some (.int (v4 / (3 : Int32))), some (.int v5)]) K d_M_eventsOf_40 (Nat.le_of_ble_eq_true rfl) rfl ?_
  refine av_iinc (v := (v5 + (1 : Int32))) (L' := [some (.ref v0), none, some (.int v2), some (.int (s0 ||| s1)), some (.int (v4 / (3 : Int32))), some (.int (v5 + (1 : Int32)))]) K d_M_eventsOf_42 rfl (congrArg (fun z => v5 + z) (show Int32.ofInt 1 = (1 : Int32) by decide)) (Nat.le_of_ble_eq_true rfl) rfl ?_
  refine av_goto (tgt := 8) K d_M_eventsOf_45 rfl ?_
  exact hk8 (v0) (v2) ((s0 ||| s1)) ((v4 / (3 : Int32))) ((v5 + (1 : Int32))) _ h
set_option maxRecDepth 100000 in
set_option maxHeartbeats 4000000 in
theorem v_M_eventsOf_8 (K : av_K p s m args meth c D cl8 ca A b_M_eventsOf 6 R_M WS) (G : av_G NS tabON A s s.heap) (hr : meth.sig.returnType = some .int) (fu : Nat) {r : Int32 × List va_E} : ∀ (n : Nat) (v0 : Nat) (v2 : Int32) (v3 : Int32) (v4 : Int32) (v5 : Int32) (w : List va_E), f_M_eventsOf_8 fu n v0 v2 v3 v4 v5 w = some r → av_VI p l e rm_M_eventsOf s m args below meth c D cl8 A ad ca 6 r 8 [some (.ref v0), none, some (.int v2), some (.int v3), some (.int v4), some (.int v5)] [] w := by
  intro n
  induction n with
  | zero => intro _ _ _ _ _ _ h; cases h
  | succ n ih =>
    intro v0 v2 v3 v4 v5 w h
    unfold f_M_eventsOf_8 at h
    refine av_iload K d_M_eventsOf_8 rfl ?_
    refine av_aload_n K d_M_eventsOf_10 rfl rfl ?_
    obtain ⟨x1, ex1, h⟩ := hp_bd h
    refine hv_gi K fl_M_61 d_M_eventsOf_11 ex1 ?_
    refine av_icmp_ge (tgt := 48) K d_M_eventsOf_14 rfl (fun hc => ?_) (fun hc => ?_)
    · rw [if_pos hc] at h
      refine av_iload_n K d_M_eventsOf_48 rfl rfl ?_
      obtain rfl := Option.some.inj h
      exact av_ireturn K hr d_M_eventsOf_49 rfl
    · rw [if_neg hc] at h
      refine av_iload_n K d_M_eventsOf_17 rfl rfl ?_
      refine av_iload K d_M_eventsOf_18 rfl ?_
      refine av_iconst (v := (3 : Int32)) K d_M_eventsOf_20 (by decide) ?_
      refine av_irem K d_M_eventsOf_21 (by decide) ?_
      refine av_iload_n K d_M_eventsOf_22 rfl rfl ?_
      refine av_icmp_ne (tgt := 33) K d_M_eventsOf_23 rfl (fun hc => ?_) (fun hc => ?_)
      · rw [if_neg hc] at h
        refine av_iconst (v := (0 : Int32)) K d_M_eventsOf_33 (by decide) ?_
        refine hv_fg (L' := [some (.ref v0), none, some (.int v2), none, some (.int v4), some (.int v5)]) [3] rfl ?_
        exact v_M_eventsOf_34 K G hr fu (f_M_eventsOf_8 fu n) ih (v0) (v2) (v4) (v5) (v3) ((0 : Int32)) _ h
      · rw [if_pos hc] at h
        refine av_iconst (v := (1 : Int32)) K d_M_eventsOf_26 (by decide) ?_
        refine av_iload K d_M_eventsOf_27 rfl ?_
        refine av_ishl K d_M_eventsOf_29 ?_
        refine av_goto (tgt := 34) K d_M_eventsOf_30 rfl ?_
        refine hv_fg (L' := [some (.ref v0), none, some (.int v2), none, some (.int v4), some (.int v5)]) [3] rfl ?_
        exact v_M_eventsOf_34 K G hr fu (f_M_eventsOf_8 fu n) ih (v0) (v2) (v4) (v5) (v3) (((1 : Int32) <<< (v5 &&& 31))) _ h
set_option maxRecDepth 100000 in
set_option maxHeartbeats 4000000 in
theorem v_M_eventsOf (K : av_K p s m args meth c D cl8 ca A b_M_eventsOf 6 R_M WS) (G : av_G NS tabON A s s.heap) (hr : meth.sig.returnType = some .int) (fu : Nat) {r : Int32 × List va_E} (v0 : Nat) (v1 : Int32) (v2 : Int32) (w : List va_E) (h : f_M_eventsOf fu v0 v1 v2 w = some r) : av_VI p l e rm_M_eventsOf s m args below meth c D cl8 A ad ca 6 r 0 [some (.ref v0), some (.int v1), some (.int v2), none, none, none] [] w := by
  unfold f_M_eventsOf at h
  refine av_iconst (v := (0 : Int32)) K d_M_eventsOf_0 (by decide) ?_
  refine av_istore_n (L' := [some (.ref v0), some (.int v1), some (.int v2), some (.int (0 : Int32)), none, none]) K d_M_eventsOf_1 rfl (Nat.le_of_ble_eq_true rfl) rfl ?_
  refine av_iload_n K d_M_eventsOf_2 rfl rfl ?_
  refine av_istore (L' := [some (.ref v0), some (.int v1), some (.int v2), some (.int (0 : Int32)), some (.int v1), none]) K d_M_eventsOf_3 (Nat.le_of_ble_eq_true rfl) rfl ?_
  refine av_iconst (v := (0 : Int32)) K d_M_eventsOf_5 (by decide) ?_
  refine av_istore (L' := [some (.ref v0), some (.int v1), some (.int v2), some (.int (0 : Int32)), some (.int v1), some (.int (0 : Int32))]) K d_M_eventsOf_6 (Nat.le_of_ble_eq_true rfl) rfl ?_
  refine hv_fg (L' := [some (.ref v0), none, some (.int v2), some (.int (0 : Int32)), some (.int v1), some (.int (0 : Int32))]) [1] rfl ?_
  exact v_M_eventsOf_8 K G hr fu fu (v0) (v2) ((0 : Int32)) (v1) ((0 : Int32)) _ h
end
set_option maxRecDepth 100000 in
theorem c_M_eventsOf {l : Launch} {D : va_G} {ca : Nat → Nat} {tab : Nat → Int64} {fu : Nat} {v0 : Nat} {v1 : Int32} {v2 : Int32} {w : List va_E} {r : Int32 × List va_E} (h : f_M_eventsOf fu v0 v1 v2 w = some r) : av_Ci l D cl8 ca NS tabON y_M_eventsOf w_M_eventsOf rm_M_eventsOf [.ref v0, .int v1, .int v2] w (fun v u => (v, u) = r) :=
  av_inI (cc := b_M_eventsOf) (nL := 6) (by decide +kernel) rfl (Nat.le_of_ble_eq_true rfl) (fun p e s m args below meth c A ad K G hr => v_M_eventsOf K G hr fu v0 v1 v2 w h)

-- FaultTreeDeskModel.size(I)I
theorem d_M_size_0 : decode b_M_size 0 = .ok (.iconst 0, 1) := by decide +kernel
theorem d_M_size_1 : decode b_M_size 1 = .ok (.istore_n 1, 1) := by decide +kernel
theorem d_M_size_2 : decode b_M_size 2 = .ok (.iconst 0, 1) := by decide +kernel
theorem d_M_size_3 : decode b_M_size 3 = .ok (.istore_n 2, 1) := by decide +kernel
theorem d_M_size_4 : decode b_M_size 4 = .ok (.iload_n 2, 1) := by decide +kernel
theorem d_M_size_5 : decode b_M_size 5 = .ok (.bipush 10, 2) := by decide +kernel
theorem d_M_size_7 : decode b_M_size 7 = .ok (.if_icmp .ge 17, 3) := by decide +kernel
theorem d_M_size_10 : decode b_M_size 10 = .ok (.iload_n 1, 1) := by decide +kernel
theorem d_M_size_11 : decode b_M_size 11 = .ok (.iload_n 0, 1) := by decide +kernel
theorem d_M_size_12 : decode b_M_size 12 = .ok (.iload_n 2, 1) := by decide +kernel
theorem d_M_size_13 : decode b_M_size 13 = .ok (.ishr, 1) := by decide +kernel
theorem d_M_size_14 : decode b_M_size 14 = .ok (.iconst 1, 1) := by decide +kernel
theorem d_M_size_15 : decode b_M_size 15 = .ok (.iand, 1) := by decide +kernel
theorem d_M_size_16 : decode b_M_size 16 = .ok (.iadd, 1) := by decide +kernel
theorem d_M_size_17 : decode b_M_size 17 = .ok (.istore_n 1, 1) := by decide +kernel
theorem d_M_size_18 : decode b_M_size 18 = .ok (.iinc 2 1, 3) := by decide +kernel
theorem d_M_size_21 : decode b_M_size 21 = .ok (.goto (-17), 3) := by decide +kernel
theorem d_M_size_24 : decode b_M_size 24 = .ok (.iload_n 1, 1) := by decide +kernel
theorem d_M_size_25 : decode b_M_size 25 = .ok (.ireturn, 1) := by decide +kernel
def rm_M_size : Room := { frames := 0, cells := 0, slots := 0, locals := 0 }
def f_M_size_4 (fu : Nat) : Nat → Int32 → Int32 → Int32 → List va_E → Option (Int32 × List va_E)
  | 0, _, _, _, _ => none
  | n + 1, v0, v1, v2, w => (if (10 : Int32) ≤ v2 then (some (v1, w)) else (f_M_size_4 fu n (v0) ((v1 + ((v0 >>> (v2 &&& 31)) &&& (1 : Int32)))) ((v2 + (1 : Int32))) w))
def f_M_size (fu : Nat) (v0 : Int32) (w : List va_E) : Option (Int32 × List va_E) := (f_M_size_4 fu fu (v0) ((0 : Int32)) ((0 : Int32)) w)
section
variable {p : Program} {l : Launch} {e : Env} {s : State} {m : MethodId} {args : Array Value} {below : List Frame} {meth : Method} {c : Code} {D : va_G} {ca : Nat → Nat} {A : Nat → Prop} {ad : Nat → Nat}
set_option maxRecDepth 100000 in
set_option maxHeartbeats 4000000 in
theorem v_M_size_4 (K : av_K p s m args meth c D cl8 ca A b_M_size 3 R_M WS) (G : av_G NS tabON A s s.heap) (hr : meth.sig.returnType = some .int) (fu : Nat) {r : Int32 × List va_E} : ∀ (n : Nat) (v0 : Int32) (v1 : Int32) (v2 : Int32) (w : List va_E), f_M_size_4 fu n v0 v1 v2 w = some r → av_VI p l e rm_M_size s m args below meth c D cl8 A ad ca 3 r 4 [some (.int v0), some (.int v1), some (.int v2)] [] w := by
  intro n
  induction n with
  | zero => intro _ _ _ _ h; cases h
  | succ n ih =>
    intro v0 v1 v2 w h
    unfold f_M_size_4 at h
    refine av_iload_n K d_M_size_4 rfl rfl ?_
    refine av_bipush (v := (10 : Int32)) K d_M_size_5 (by decide) ?_
    refine av_icmp_ge (tgt := 24) K d_M_size_7 rfl (fun hc => ?_) (fun hc => ?_)
    · rw [if_pos hc] at h
      refine av_iload_n K d_M_size_24 rfl rfl ?_
      obtain rfl := Option.some.inj h
      exact av_ireturn K hr d_M_size_25 rfl
    · rw [if_neg hc] at h
      refine av_iload_n K d_M_size_10 rfl rfl ?_
      refine av_iload_n K d_M_size_11 rfl rfl ?_
      refine av_iload_n K d_M_size_12 rfl rfl ?_
      refine av_ishr K d_M_size_13 ?_
      refine av_iconst (v := (1 : Int32)) K d_M_size_14 (by decide) ?_
      refine av_iand K d_M_size_15 ?_
      refine av_iadd K d_M_size_16 ?_
      refine av_istore_n (L' := [some (.int v0), some (.int (v1 + ((v0 >>> (v2 &&& 31)) &&& (1 : Int32)))), some (.int v2)]) K d_M_size_17 rfl (Nat.le_of_ble_eq_true rfl) rfl ?_
      refine av_iinc (v := (v2 + (1 : Int32))) (L' := [some (.int v0), some (.int (v1 + ((v0 >>> (v2 &&& 31)) &&& (1 : Int32)))), some (.int (v2 + (1 : Int32)))]) K d_M_size_18 rfl (congrArg (fun z => v2 + z) (show Int32.ofInt 1 = (1 : Int32) by decide)) (Nat.le_of_ble_eq_true rfl) rfl ?_
      refine av_goto (tgt := 4) K d_M_size_21 rfl ?_
      exact ih (v0) ((v1 + ((v0 >>> (v2 &&& 31)) &&& (1 : Int32)))) ((v2 + (1 : Int32))) _ h
set_option maxRecDepth 100000 in
set_option maxHeartbeats 4000000 in
theorem v_M_size (K : av_K p s m args meth c D cl8 ca A b_M_size 3 R_M WS) (G : av_G NS tabON A s s.heap) (hr : meth.sig.returnType = some .int) (fu : Nat) {r : Int32 × List va_E} (v0 : Int32) (w : List va_E) (h : f_M_size fu v0 w = some r) : av_VI p l e rm_M_size s m args below meth c D cl8 A ad ca 3 r 0 [some (.int v0), none, none] [] w := by
  unfold f_M_size at h
  refine av_iconst (v := (0 : Int32)) K d_M_size_0 (by decide) ?_
  refine av_istore_n (L' := [some (.int v0), some (.int (0 : Int32)), none]) K d_M_size_1 rfl (Nat.le_of_ble_eq_true rfl) rfl ?_
  refine av_iconst (v := (0 : Int32)) K d_M_size_2 (by decide) ?_
  refine av_istore_n (L' := [some (.int v0), some (.int (0 : Int32)), some (.int (0 : Int32))]) K d_M_size_3 rfl (Nat.le_of_ble_eq_true rfl) rfl ?_
  exact v_M_size_4 K G hr fu fu (v0) ((0 : Int32)) ((0 : Int32)) _ h
end
set_option maxRecDepth 100000 in
theorem c_M_size {l : Launch} {D : va_G} {ca : Nat → Nat} {tab : Nat → Int64} {fu : Nat} {v0 : Int32} {w : List va_E} {r : Int32 × List va_E} (h : f_M_size fu v0 w = some r) : av_Ci l D cl8 ca NS tabON y_M_size w_M_size rm_M_size [.int v0] w (fun v u => (v, u) = r) :=
  av_inI (cc := b_M_size) (nL := 3) (by decide +kernel) rfl (Nat.le_of_ble_eq_true rfl) (fun p e s m args below meth c A ad K G hr => v_M_size K G hr fu v0 w h)

-- FaultTreeDeskModel.isBefore(IIII)Z
theorem d_M_isBefore_0 : decode b_M_isBefore 0 = .ok (.iload_n 0, 1) := by decide +kernel
theorem d_M_isBefore_1 : decode b_M_isBefore 1 = .ok (.invokestatic 109, 3) := by decide +kernel
theorem d_M_isBefore_4 : decode b_M_isBefore 4 = .ok (.iload_n 1, 1) := by decide +kernel
theorem d_M_isBefore_5 : decode b_M_isBefore 5 = .ok (.invokestatic 109, 3) := by decide +kernel
theorem d_M_isBefore_8 : decode b_M_isBefore 8 = .ok (.iadd, 1) := by decide +kernel
theorem d_M_isBefore_9 : decode b_M_isBefore 9 = .ok (.iload_n 2, 1) := by decide +kernel
theorem d_M_isBefore_10 : decode b_M_isBefore 10 = .ok (.invokestatic 109, 3) := by decide +kernel
theorem d_M_isBefore_13 : decode b_M_isBefore 13 = .ok (.isub, 1) := by decide +kernel
theorem d_M_isBefore_14 : decode b_M_isBefore 14 = .ok (.iload_n 3, 1) := by decide +kernel
theorem d_M_isBefore_15 : decode b_M_isBefore 15 = .ok (.invokestatic 109, 3) := by decide +kernel
theorem d_M_isBefore_18 : decode b_M_isBefore 18 = .ok (.isub, 1) := by decide +kernel
theorem d_M_isBefore_19 : decode b_M_isBefore 19 = .ok (.istore 4, 2) := by decide +kernel
theorem d_M_isBefore_21 : decode b_M_isBefore 21 = .ok (.iload 4, 2) := by decide +kernel
theorem d_M_isBefore_23 : decode b_M_isBefore 23 = .ok (.ifCond .eq 8, 3) := by decide +kernel
theorem d_M_isBefore_26 : decode b_M_isBefore 26 = .ok (.iload 4, 2) := by decide +kernel
theorem d_M_isBefore_28 : decode b_M_isBefore 28 = .ok (.goto 6, 3) := by decide +kernel
theorem d_M_isBefore_31 : decode b_M_isBefore 31 = .ok (.iload_n 0, 1) := by decide +kernel
theorem d_M_isBefore_32 : decode b_M_isBefore 32 = .ok (.iload_n 2, 1) := by decide +kernel
theorem d_M_isBefore_33 : decode b_M_isBefore 33 = .ok (.isub, 1) := by decide +kernel
theorem d_M_isBefore_34 : decode b_M_isBefore 34 = .ok (.istore 4, 2) := by decide +kernel
theorem d_M_isBefore_36 : decode b_M_isBefore 36 = .ok (.iload 4, 2) := by decide +kernel
theorem d_M_isBefore_38 : decode b_M_isBefore 38 = .ok (.ifCond .eq 16, 3) := by decide +kernel
theorem d_M_isBefore_41 : decode b_M_isBefore 41 = .ok (.iload 4, 2) := by decide +kernel
theorem d_M_isBefore_43 : decode b_M_isBefore 43 = .ok (.ifCond .ge 7, 3) := by decide +kernel
theorem d_M_isBefore_46 : decode b_M_isBefore 46 = .ok (.iconst 1, 1) := by decide +kernel
theorem d_M_isBefore_47 : decode b_M_isBefore 47 = .ok (.goto 17, 3) := by decide +kernel
theorem d_M_isBefore_50 : decode b_M_isBefore 50 = .ok (.iconst 0, 1) := by decide +kernel
theorem d_M_isBefore_51 : decode b_M_isBefore 51 = .ok (.goto 13, 3) := by decide +kernel
theorem d_M_isBefore_54 : decode b_M_isBefore 54 = .ok (.iload_n 1, 1) := by decide +kernel
theorem d_M_isBefore_55 : decode b_M_isBefore 55 = .ok (.iload_n 3, 1) := by decide +kernel
theorem d_M_isBefore_56 : decode b_M_isBefore 56 = .ok (.if_icmp .ge 7, 3) := by decide +kernel
theorem d_M_isBefore_59 : decode b_M_isBefore 59 = .ok (.iconst 1, 1) := by decide +kernel
theorem d_M_isBefore_60 : decode b_M_isBefore 60 = .ok (.goto 4, 3) := by decide +kernel
theorem d_M_isBefore_63 : decode b_M_isBefore 63 = .ok (.iconst 0, 1) := by decide +kernel
theorem d_M_isBefore_64 : decode b_M_isBefore 64 = .ok (.ireturn, 1) := by decide +kernel
def rm_M_isBefore : Room := { frames := 1, cells := 0, slots := 0, locals := 22 }
def f_M_isBefore_64 (fu : Nat) (s0 : Int32) (w : List va_E) : Option (Int32 × List va_E) := (if s0 = 0 ∨ s0 = 1 then some (s0, w) else none)
def f_M_isBefore_34 (fu : Nat) (v1 : Int32) (v3 : Int32) (s0 : Int32) (w : List va_E) : Option (Int32 × List va_E) := (if s0 = 0 then (if v3 ≤ v1 then (f_M_isBefore_64 fu ((0 : Int32)) w) else (f_M_isBefore_64 fu ((1 : Int32)) w)) else (if 0 ≤ s0 then (f_M_isBefore_64 fu ((0 : Int32)) w) else (f_M_isBefore_64 fu ((1 : Int32)) w)))
def f_M_isBefore (fu : Nat) (v0 : Int32) (v1 : Int32) (v2 : Int32) (v3 : Int32) (w : List va_E) : Option (Int32 × List va_E) := ((f_M_size fu v0 w).bind fun r1 => ((f_M_size fu v1 r1.2).bind fun r2 => ((f_M_size fu v2 r2.2).bind fun r3 => ((f_M_size fu v3 r3.2).bind fun r4 => (if (((r1.1 + r2.1) - r3.1) - r4.1) = 0 then (f_M_isBefore_34 fu (v1) (v3) ((v0 - v2)) r4.2) else (f_M_isBefore_34 fu (v1) (v3) ((((r1.1 + r2.1) - r3.1) - r4.1)) r4.2))))))
section
variable {p : Program} {l : Launch} {e : Env} {s : State} {m : MethodId} {args : Array Value} {below : List Frame} {meth : Method} {c : Code} {D : va_G} {ca : Nat → Nat} {A : Nat → Prop} {ad : Nat → Nat}
set_option maxRecDepth 100000 in
set_option maxHeartbeats 4000000 in
theorem v_M_isBefore_64 (K : av_K p s m args meth c D cl8 ca A b_M_isBefore 5 R_M WS) (G : av_G NS tabON A s s.heap) (hr : meth.sig.returnType = some .boolean) (fu : Nat) {r : Int32 × List va_E} (s0 : Int32) (w : List va_E) (h : f_M_isBefore_64 fu s0 w = some r) : av_VI p l e rm_M_isBefore s m args below meth c D cl8 A ad ca 5 r 64 [none, none, none, none, none] [.int s0] w := by
  unfold f_M_isBefore_64 at h
  obtain ⟨hz, h⟩ := hp_if h
  obtain rfl := Option.some.inj h
  exact av_zreturn K hr (hp_nz hz) d_M_isBefore_64 rfl
set_option maxRecDepth 100000 in
set_option maxHeartbeats 4000000 in
theorem v_M_isBefore_34 (K : av_K p s m args meth c D cl8 ca A b_M_isBefore 5 R_M WS) (G : av_G NS tabON A s s.heap) (hr : meth.sig.returnType = some .boolean) (fu : Nat) {r : Int32 × List va_E} (v1 : Int32) (v3 : Int32) (s0 : Int32) (w : List va_E) (h : f_M_isBefore_34 fu v1 v3 s0 w = some r) : av_VI p l e rm_M_isBefore s m args below meth c D cl8 A ad ca 5 r 34 [none, some (.int v1), none, some (.int v3), none] [.int s0] w := by
  unfold f_M_isBefore_34 at h
  refine av_istore (L' := [none, some (.int v1), none, some (.int v3), some (.int s0)]) K d_M_isBefore_34 (Nat.le_of_ble_eq_true rfl) rfl ?_
  refine av_iload K d_M_isBefore_36 rfl ?_
  refine av_if_eq (tgt := 54) K d_M_isBefore_38 rfl (fun hc => ?_) (fun hc => ?_)
  · rw [if_pos hc] at h
    refine av_iload_n K d_M_isBefore_54 rfl rfl ?_
    refine av_iload_n K d_M_isBefore_55 rfl rfl ?_
    refine av_icmp_ge (tgt := 63) K d_M_isBefore_56 rfl (fun hc => ?_) (fun hc => ?_)
    · rw [if_pos hc] at h
      refine av_iconst (v := (0 : Int32)) K d_M_isBefore_63 (by decide) ?_
      refine hv_fg (L' := [none, none, none, none, none]) [1, 3, 4] rfl ?_
      exact v_M_isBefore_64 K G hr fu ((0 : Int32)) _ h
    · rw [if_neg hc] at h
      refine av_iconst (v := (1 : Int32)) K d_M_isBefore_59 (by decide) ?_
      refine av_goto (tgt := 64) K d_M_isBefore_60 rfl ?_
      refine hv_fg (L' := [none, none, none, none, none]) [1, 3, 4] rfl ?_
      exact v_M_isBefore_64 K G hr fu ((1 : Int32)) _ h
  · rw [if_neg hc] at h
    refine av_iload K d_M_isBefore_41 rfl ?_
    refine av_if_ge (tgt := 50) K d_M_isBefore_43 rfl (fun hc => ?_) (fun hc => ?_)
    · rw [if_pos hc] at h
      refine av_iconst (v := (0 : Int32)) K d_M_isBefore_50 (by decide) ?_
      refine av_goto (tgt := 64) K d_M_isBefore_51 rfl ?_
      refine hv_fg (L' := [none, none, none, none, none]) [1, 3, 4] rfl ?_
      exact v_M_isBefore_64 K G hr fu ((0 : Int32)) _ h
    · rw [if_neg hc] at h
      refine av_iconst (v := (1 : Int32)) K d_M_isBefore_46 (by decide) ?_
      refine av_goto (tgt := 64) K d_M_isBefore_47 rfl ?_
      refine hv_fg (L' := [none, none, none, none, none]) [1, 3, 4] rfl ?_
      exact v_M_isBefore_64 K G hr fu ((1 : Int32)) _ h
set_option maxRecDepth 100000 in
set_option maxHeartbeats 4000000 in
theorem v_M_isBefore (K : av_K p s m args meth c D cl8 ca A b_M_isBefore 5 R_M WS) (G : av_G NS tabON A s s.heap) (hr : meth.sig.returnType = some .boolean) (fu : Nat) {r : Int32 × List va_E} (v0 : Int32) (v1 : Int32) (v2 : Int32) (v3 : Int32) (w : List va_E) (h : f_M_isBefore fu v0 v1 v2 v3 w = some r) : av_VI p l e rm_M_isBefore s m args below meth c D cl8 A ad ca 5 r 0 [some (.int v0), some (.int v1), some (.int v2), some (.int v3), none] [] w := by
  unfold f_M_isBefore at h
  refine av_iload_n K d_M_isBefore_0 rfl rfl ?_
  obtain ⟨r1, er1, h⟩ := hp_bd h
  refine av_cSi K G (c_M_size (tab := tabON) er1) (cwS 1 K.2.2.2.2.1 (gS ml_M_109 sm_M_size in_M co_M_size) rfl rfl rfl cd_M_size ⟨Nat.le_of_ble_eq_true rfl, Nat.le_of_ble_eq_true rfl⟩) rfl rfl (Nat.le_of_ble_eq_true rfl) d_M_isBefore_1 ⟨Nat.zero_le _, Nat.zero_le _⟩ (fun a9 u9 h9 => ?_)
  obtain ⟨rfl, rfl⟩ : a9 = r1.1 ∧ u9 = r1.2 := ⟨congrArg Prod.fst h9, congrArg Prod.snd h9⟩
  refine av_iload_n K d_M_isBefore_4 rfl rfl ?_
  obtain ⟨r2, er2, h⟩ := hp_bd h
  refine av_cSi K G (c_M_size (tab := tabON) er2) (cwS 1 K.2.2.2.2.1 (gS ml_M_109 sm_M_size in_M co_M_size) rfl rfl rfl cd_M_size ⟨Nat.le_of_ble_eq_true rfl, Nat.le_of_ble_eq_true rfl⟩) rfl rfl (Nat.le_of_ble_eq_true rfl) d_M_isBefore_5 ⟨Nat.zero_le _, Nat.zero_le _⟩ (fun a9 u9 h9 => ?_)
  obtain ⟨rfl, rfl⟩ : a9 = r2.1 ∧ u9 = r2.2 := ⟨congrArg Prod.fst h9, congrArg Prod.snd h9⟩
  refine av_iadd K d_M_isBefore_8 ?_
  refine av_iload_n K d_M_isBefore_9 rfl rfl ?_
  obtain ⟨r3, er3, h⟩ := hp_bd h
  refine av_cSi K G (c_M_size (tab := tabON) er3) (cwS 1 K.2.2.2.2.1 (gS ml_M_109 sm_M_size in_M co_M_size) rfl rfl rfl cd_M_size ⟨Nat.le_of_ble_eq_true rfl, Nat.le_of_ble_eq_true rfl⟩) rfl rfl (Nat.le_of_ble_eq_true rfl) d_M_isBefore_10 ⟨Nat.zero_le _, Nat.zero_le _⟩ (fun a9 u9 h9 => ?_)
  obtain ⟨rfl, rfl⟩ : a9 = r3.1 ∧ u9 = r3.2 := ⟨congrArg Prod.fst h9, congrArg Prod.snd h9⟩
  refine av_isub K d_M_isBefore_13 ?_
  refine av_iload_n K d_M_isBefore_14 rfl rfl ?_
  obtain ⟨r4, er4, h⟩ := hp_bd h
  refine av_cSi K G (c_M_size (tab := tabON) er4) (cwS 1 K.2.2.2.2.1 (gS ml_M_109 sm_M_size in_M co_M_size) rfl rfl rfl cd_M_size ⟨Nat.le_of_ble_eq_true rfl, Nat.le_of_ble_eq_true rfl⟩) rfl rfl (Nat.le_of_ble_eq_true rfl) d_M_isBefore_15 ⟨Nat.zero_le _, Nat.zero_le _⟩ (fun a9 u9 h9 => ?_)
  obtain ⟨rfl, rfl⟩ : a9 = r4.1 ∧ u9 = r4.2 := ⟨congrArg Prod.fst h9, congrArg Prod.snd h9⟩
  refine av_isub K d_M_isBefore_18 ?_
  refine av_istore (L' := [some (.int v0), some (.int v1), some (.int v2), some (.int v3), some (.int (((r1.1 + r2.1) - r3.1) - r4.1))]) K d_M_isBefore_19 (Nat.le_of_ble_eq_true rfl) rfl ?_
  refine av_iload K d_M_isBefore_21 rfl ?_
  refine av_if_eq (tgt := 31) K d_M_isBefore_23 rfl (fun hc => ?_) (fun hc => ?_)
  · rw [if_pos hc] at h
    refine av_iload_n K d_M_isBefore_31 rfl rfl ?_
    refine av_iload_n K d_M_isBefore_32 rfl rfl ?_
    refine av_isub K d_M_isBefore_33 ?_
    refine hv_fg (L' := [none, some (.int v1), none, some (.int v3), none]) [0, 2, 4] rfl ?_
    exact v_M_isBefore_34 K G hr fu (v1) (v3) ((v0 - v2)) _ h
  · rw [if_neg hc] at h
    refine av_iload K d_M_isBefore_26 rfl ?_
    refine av_goto (tgt := 34) K d_M_isBefore_28 rfl ?_
    refine hv_fg (L' := [none, some (.int v1), none, some (.int v3), none]) [0, 2, 4] rfl ?_
    exact v_M_isBefore_34 K G hr fu (v1) (v3) ((((r1.1 + r2.1) - r3.1) - r4.1)) _ h
end
set_option maxRecDepth 100000 in
theorem c_M_isBefore {l : Launch} {D : va_G} {ca : Nat → Nat} {tab : Nat → Int64} {fu : Nat} {v0 : Int32} {v1 : Int32} {v2 : Int32} {v3 : Int32} {w : List va_E} {r : Int32 × List va_E} (h : f_M_isBefore fu v0 v1 v2 v3 w = some r) : av_Ci l D cl8 ca NS tabON y_M_isBefore w_M_isBefore rm_M_isBefore [.int v0, .int v1, .int v2, .int v3] w (fun v u => (v, u) = r) :=
  av_inI (cc := b_M_isBefore) (nL := 5) (by decide +kernel) rfl (Nat.le_of_ble_eq_true rfl) (fun p e s m args below meth c A ad K G hr => v_M_isBefore K G hr fu v0 v1 v2 v3 w h)

-- FaultTreeDeskModel.keep(II)V
theorem d_M_keep_0 : decode b_M_keep 0 = .ok (.aload_n 0, 1) := by decide +kernel
theorem d_M_keep_1 : decode b_M_keep 1 = .ok (.getfield 113, 3) := by decide +kernel
theorem d_M_keep_4 : decode b_M_keep 4 = .ok (.istore_n 3, 1) := by decide +kernel
theorem d_M_keep_5 : decode b_M_keep 5 = .ok (.iload_n 3, 1) := by decide +kernel
theorem d_M_keep_6 : decode b_M_keep 6 = .ok (.ifCond .le 61, 3) := by decide +kernel
theorem d_M_keep_9 : decode b_M_keep 9 = .ok (.iload_n 1, 1) := by decide +kernel
theorem d_M_keep_10 : decode b_M_keep 10 = .ok (.iload_n 2, 1) := by decide +kernel
theorem d_M_keep_11 : decode b_M_keep 11 = .ok (.aload_n 0, 1) := by decide +kernel
theorem d_M_keep_12 : decode b_M_keep 12 = .ok (.getfield 52, 3) := by decide +kernel
theorem d_M_keep_15 : decode b_M_keep 15 = .ok (.iload_n 3, 1) := by decide +kernel
theorem d_M_keep_16 : decode b_M_keep 16 = .ok (.iconst 1, 1) := by decide +kernel
theorem d_M_keep_17 : decode b_M_keep 17 = .ok (.isub, 1) := by decide +kernel
theorem d_M_keep_18 : decode b_M_keep 18 = .ok (.iaload, 1) := by decide +kernel
theorem d_M_keep_19 : decode b_M_keep 19 = .ok (.aload_n 0, 1) := by decide +kernel
theorem d_M_keep_20 : decode b_M_keep 20 = .ok (.getfield 55, 3) := by decide +kernel
theorem d_M_keep_23 : decode b_M_keep 23 = .ok (.iload_n 3, 1) := by decide +kernel
theorem d_M_keep_24 : decode b_M_keep 24 = .ok (.iconst 1, 1) := by decide +kernel
theorem d_M_keep_25 : decode b_M_keep 25 = .ok (.isub, 1) := by decide +kernel
theorem d_M_keep_26 : decode b_M_keep 26 = .ok (.iaload, 1) := by decide +kernel
theorem d_M_keep_27 : decode b_M_keep 27 = .ok (.invokestatic 116, 3) := by decide +kernel
theorem d_M_keep_30 : decode b_M_keep 30 = .ok (.ifCond .eq 37, 3) := by decide +kernel
theorem d_M_keep_33 : decode b_M_keep 33 = .ok (.aload_n 0, 1) := by decide +kernel
theorem d_M_keep_34 : decode b_M_keep 34 = .ok (.getfield 52, 3) := by decide +kernel
theorem d_M_keep_37 : decode b_M_keep 37 = .ok (.iload_n 3, 1) := by decide +kernel
theorem d_M_keep_38 : decode b_M_keep 38 = .ok (.aload_n 0, 1) := by decide +kernel
theorem d_M_keep_39 : decode b_M_keep 39 = .ok (.getfield 52, 3) := by decide +kernel
theorem d_M_keep_42 : decode b_M_keep 42 = .ok (.iload_n 3, 1) := by decide +kernel
theorem d_M_keep_43 : decode b_M_keep 43 = .ok (.iconst 1, 1) := by decide +kernel
theorem d_M_keep_44 : decode b_M_keep 44 = .ok (.isub, 1) := by decide +kernel
theorem d_M_keep_45 : decode b_M_keep 45 = .ok (.iaload, 1) := by decide +kernel
theorem d_M_keep_46 : decode b_M_keep 46 = .ok (.iastore, 1) := by decide +kernel
theorem d_M_keep_47 : decode b_M_keep 47 = .ok (.aload_n 0, 1) := by decide +kernel
theorem d_M_keep_48 : decode b_M_keep 48 = .ok (.getfield 55, 3) := by decide +kernel
theorem d_M_keep_51 : decode b_M_keep 51 = .ok (.iload_n 3, 1) := by decide +kernel
theorem d_M_keep_52 : decode b_M_keep 52 = .ok (.aload_n 0, 1) := by decide +kernel
theorem d_M_keep_53 : decode b_M_keep 53 = .ok (.getfield 55, 3) := by decide +kernel
theorem d_M_keep_56 : decode b_M_keep 56 = .ok (.iload_n 3, 1) := by decide +kernel
theorem d_M_keep_57 : decode b_M_keep 57 = .ok (.iconst 1, 1) := by decide +kernel
theorem d_M_keep_58 : decode b_M_keep 58 = .ok (.isub, 1) := by decide +kernel
theorem d_M_keep_59 : decode b_M_keep 59 = .ok (.iaload, 1) := by decide +kernel
theorem d_M_keep_60 : decode b_M_keep 60 = .ok (.iastore, 1) := by decide +kernel
theorem d_M_keep_61 : decode b_M_keep 61 = .ok (.iinc 3 (-1), 3) := by decide +kernel
theorem d_M_keep_64 : decode b_M_keep 64 = .ok (.goto (-59), 3) := by decide +kernel
theorem d_M_keep_67 : decode b_M_keep 67 = .ok (.aload_n 0, 1) := by decide +kernel
theorem d_M_keep_68 : decode b_M_keep 68 = .ok (.getfield 52, 3) := by decide +kernel
theorem d_M_keep_71 : decode b_M_keep 71 = .ok (.iload_n 3, 1) := by decide +kernel
theorem d_M_keep_72 : decode b_M_keep 72 = .ok (.iload_n 1, 1) := by decide +kernel
theorem d_M_keep_73 : decode b_M_keep 73 = .ok (.iastore, 1) := by decide +kernel
theorem d_M_keep_74 : decode b_M_keep 74 = .ok (.aload_n 0, 1) := by decide +kernel
theorem d_M_keep_75 : decode b_M_keep 75 = .ok (.getfield 55, 3) := by decide +kernel
theorem d_M_keep_78 : decode b_M_keep 78 = .ok (.iload_n 3, 1) := by decide +kernel
theorem d_M_keep_79 : decode b_M_keep 79 = .ok (.iload_n 2, 1) := by decide +kernel
theorem d_M_keep_80 : decode b_M_keep 80 = .ok (.iastore, 1) := by decide +kernel
theorem d_M_keep_81 : decode b_M_keep 81 = .ok (.aload_n 0, 1) := by decide +kernel
theorem d_M_keep_82 : decode b_M_keep 82 = .ok (.dup, 1) := by decide +kernel
theorem d_M_keep_83 : decode b_M_keep 83 = .ok (.getfield 113, 3) := by decide +kernel
theorem d_M_keep_86 : decode b_M_keep 86 = .ok (.iconst 1, 1) := by decide +kernel
theorem d_M_keep_87 : decode b_M_keep 87 = .ok (.iadd, 1) := by decide +kernel
theorem d_M_keep_88 : decode b_M_keep 88 = .ok (.putfield 113, 3) := by decide +kernel
theorem d_M_keep_91 : decode b_M_keep 91 = .ok (.return_, 1) := by decide +kernel
def rm_M_keep : Room := { frames := 2, cells := 0, slots := 0, locals := 46 }
def f_M_keep_67 (fu : Nat) (v0 : Nat) (v1 : Int32) (v2 : Int32) (v3 : Int32) (w : List va_E) : Option (List va_E) := ((hp_gr w v0 7 17).bind fun q1 => ((hp_wi w q1 v3 v1).bind fun w2 => ((hp_gr w2 v0 7 18).bind fun q3 => ((hp_wi w2 q3 v3 v2).bind fun w4 => ((hp_gi w4 v0 7 16).bind fun x5 => ((hp_pi w4 v0 7 16 (x5 + (1 : Int32))).bind fun w6 => (some w6)))))))
def f_M_keep_5 (fu : Nat) : Nat → Nat → Int32 → Int32 → Int32 → List va_E → Option (List va_E)
  | 0, _, _, _, _, _ => none
  | n + 1, v0, v1, v2, v3, w => (if v3 ≤ 0 then (f_M_keep_67 fu (v0) (v1) (v2) (v3) w) else ((hp_gr w v0 7 17).bind fun q1 => ((hp_ri w q1 (v3 - (1 : Int32))).bind fun x2 => ((hp_gr w v0 7 18).bind fun q3 => ((hp_ri w q3 (v3 - (1 : Int32))).bind fun x4 => ((f_M_isBefore fu v1 v2 x2 x4 w).bind fun r5 => (if r5.1 = 0 then (f_M_keep_67 fu (v0) (v1) (v2) (v3) r5.2) else ((hp_gr r5.2 v0 7 17).bind fun q6 => ((hp_gr r5.2 v0 7 17).bind fun q7 => ((hp_ri r5.2 q7 (v3 - (1 : Int32))).bind fun x8 => ((hp_wi r5.2 q6 v3 x8).bind fun w9 => ((hp_gr w9 v0 7 18).bind fun q10 => ((hp_gr w9 v0 7 18).bind fun q11 => ((hp_ri w9 q11 (v3 - (1 : Int32))).bind fun x12 => ((hp_wi w9 q10 v3 x12).bind fun w13 => (f_M_keep_5 fu n (v0) (v1) (v2) ((v3 + (-1 : Int32))) w13))))))))))))))))
def f_M_keep (fu : Nat) (v0 : Nat) (v1 : Int32) (v2 : Int32) (w : List va_E) : Option (List va_E) := ((hp_gi w v0 7 16).bind fun x1 => (f_M_keep_5 fu fu (v0) (v1) (v2) (x1) w))
section
variable {p : Program} {l : Launch} {e : Env} {s : State} {m : MethodId} {args : Array Value} {below : List Frame} {meth : Method} {c : Code} {D : va_G} {ca : Nat → Nat} {A : Nat → Prop} {ad : Nat → Nat}
set_option maxRecDepth 100000 in
set_option maxHeartbeats 4000000 in
theorem v_M_keep_67 (K : av_K p s m args meth c D cl8 ca A b_M_keep 4 R_M WS) (G : av_G NS tabON A s s.heap) (hr : meth.sig.returnType = none) (fu : Nat) {r : List va_E} (v0 : Nat) (v1 : Int32) (v2 : Int32) (v3 : Int32) (w : List va_E) (h : f_M_keep_67 fu v0 v1 v2 v3 w = some r) : av_VV p l e rm_M_keep s m args below meth c D cl8 A ad ca 4 r 67 [some (.ref v0), some (.int v1), some (.int v2), some (.int v3)] [] w := by
  unfold f_M_keep_67 at h
  refine av_aload_n K d_M_keep_67 rfl rfl ?_
  obtain ⟨q1, eq1, h⟩ := hp_bd h
  refine hv_gr K fl_M_52 d_M_keep_68 eq1 ?_
  refine av_iload_n K d_M_keep_71 rfl rfl ?_
  refine av_iload_n K d_M_keep_72 rfl rfl ?_
  obtain ⟨w2, ew2, h⟩ := hp_bd h
  refine hv_wi K d_M_keep_73 ew2 ?_
  refine av_aload_n K d_M_keep_74 rfl rfl ?_
  obtain ⟨q3, eq3, h⟩ := hp_bd h
  refine hv_gr K fl_M_55 d_M_keep_75 eq3 ?_
  refine av_iload_n K d_M_keep_78 rfl rfl ?_
  refine av_iload_n K d_M_keep_79 rfl rfl ?_
  obtain ⟨w4, ew4, h⟩ := hp_bd h
  refine hv_wi K d_M_keep_80 ew4 ?_
  refine av_aload_n K d_M_keep_81 rfl rfl ?_
  refine av_dup K d_M_keep_82 rfl ?_
  obtain ⟨x5, ex5, h⟩ := hp_bd h
  refine hv_gi K fl_M_113 d_M_keep_83 ex5 ?_
  refine av_iconst (v := (1 : Int32)) K d_M_keep_86 (by decide) ?_
  refine av_iadd K d_M_keep_87 ?_
  obtain ⟨w6, ew6, h⟩ := hp_bd h
  refine hv_pi K fp_M_113 d_M_keep_88 ew6 ?_
  obtain rfl := Option.some.inj h
  exact av_return K hr d_M_keep_91 rfl
set_option maxRecDepth 100000 in
set_option maxHeartbeats 4000000 in
theorem v_M_keep_5 (K : av_K p s m args meth c D cl8 ca A b_M_keep 4 R_M WS) (G : av_G NS tabON A s s.heap) (hr : meth.sig.returnType = none) (fu : Nat) {r : List va_E} : ∀ (n : Nat) (v0 : Nat) (v1 : Int32) (v2 : Int32) (v3 : Int32) (w : List va_E), f_M_keep_5 fu n v0 v1 v2 v3 w = some r → av_VV p l e rm_M_keep s m args below meth c D cl8 A ad ca 4 r 5 [some (.ref v0), some (.int v1), some (.int v2), some (.int v3)] [] w := by
  intro n
  induction n with
  | zero => intro _ _ _ _ _ h; cases h
  | succ n ih =>
    intro v0 v1 v2 v3 w h
    unfold f_M_keep_5 at h
    refine av_iload_n K d_M_keep_5 rfl rfl ?_
    refine av_if_le (tgt := 67) K d_M_keep_6 rfl (fun hc => ?_) (fun hc => ?_)
    · rw [if_pos hc] at h
      exact v_M_keep_67 K G hr fu (v0) (v1) (v2) (v3) _ h
    · rw [if_neg hc] at h
      refine av_iload_n K d_M_keep_9 rfl rfl ?_
      refine av_iload_n K d_M_keep_10 rfl rfl ?_
      refine av_aload_n K d_M_keep_11 rfl rfl ?_
      obtain ⟨q1, eq1, h⟩ := hp_bd h
      refine hv_gr K fl_M_52 d_M_keep_12 eq1 ?_
      refine av_iload_n K d_M_keep_15 rfl rfl ?_
      refine av_iconst (v := (1 : Int32)) K d_M_keep_16 (by decide) ?_
      refine av_isub K d_M_keep_17 ?_
      obtain ⟨x2, ex2, h⟩ := hp_bd h
      refine hv_ri K d_M_keep_18 ex2 ?_
      refine av_aload_n K d_M_keep_19 rfl rfl ?_
      obtain ⟨q3, eq3, h⟩ := hp_bd h
      refine hv_gr K fl_M_55 d_M_keep_20 eq3 ?_
      refine av_iload_n K d_M_keep_23 rfl rfl ?_
      refine av_iconst (v := (1 : Int32)) K d_M_keep_24 (by decide) ?_
      refine av_isub K d_M_keep_25 ?_
      obtain ⟨x4, ex4, h⟩ := hp_bd h
      refine hv_ri K d_M_keep_26 ex4 ?_
      obtain ⟨r5, er5, h⟩ := hp_bd h
      refine av_cSi K G (c_M_isBefore (tab := tabON) er5) (cwS 4 K.2.2.2.2.1 (gS ml_M_116 sm_M_isBefore in_M co_M_isBefore) rfl rfl rfl cd_M_isBefore ⟨Nat.le_of_ble_eq_true rfl, Nat.le_of_ble_eq_true rfl⟩) rfl rfl (Nat.le_of_ble_eq_true rfl) d_M_keep_27 ⟨Nat.zero_le _, Nat.zero_le _⟩ (fun a9 u9 h9 => ?_)
      obtain ⟨rfl, rfl⟩ : a9 = r5.1 ∧ u9 = r5.2 := ⟨congrArg Prod.fst h9, congrArg Prod.snd h9⟩
      refine av_if_eq (tgt := 67) K d_M_keep_30 rfl (fun hc => ?_) (fun hc => ?_)
      · rw [if_pos hc] at h
        exact v_M_keep_67 K G hr fu (v0) (v1) (v2) (v3) _ h
      · rw [if_neg hc] at h
        refine av_aload_n K d_M_keep_33 rfl rfl ?_
        obtain ⟨q6, eq6, h⟩ := hp_bd h
        refine hv_gr K fl_M_52 d_M_keep_34 eq6 ?_
        refine av_iload_n K d_M_keep_37 rfl rfl ?_
        refine av_aload_n K d_M_keep_38 rfl rfl ?_
        obtain ⟨q7, eq7, h⟩ := hp_bd h
        refine hv_gr K fl_M_52 d_M_keep_39 eq7 ?_
        refine av_iload_n K d_M_keep_42 rfl rfl ?_
        refine av_iconst (v := (1 : Int32)) K d_M_keep_43 (by decide) ?_
        refine av_isub K d_M_keep_44 ?_
        obtain ⟨x8, ex8, h⟩ := hp_bd h
        refine hv_ri K d_M_keep_45 ex8 ?_
        obtain ⟨w9, ew9, h⟩ := hp_bd h
        refine hv_wi K d_M_keep_46 ew9 ?_
        refine av_aload_n K d_M_keep_47 rfl rfl ?_
        obtain ⟨q10, eq10, h⟩ := hp_bd h
        refine hv_gr K fl_M_55 d_M_keep_48 eq10 ?_
        refine av_iload_n K d_M_keep_51 rfl rfl ?_
        refine av_aload_n K d_M_keep_52 rfl rfl ?_
        obtain ⟨q11, eq11, h⟩ := hp_bd h
        refine hv_gr K fl_M_55 d_M_keep_53 eq11 ?_
        refine av_iload_n K d_M_keep_56 rfl rfl ?_
        refine av_iconst (v := (1 : Int32)) K d_M_keep_57 (by decide) ?_
        refine av_isub K d_M_keep_58 ?_
        obtain ⟨x12, ex12, h⟩ := hp_bd h
        refine hv_ri K d_M_keep_59 ex12 ?_
        obtain ⟨w13, ew13, h⟩ := hp_bd h
        refine hv_wi K d_M_keep_60 ew13 ?_
        refine av_iinc (v := (v3 + (-1 : Int32))) (L' := [some (.ref v0), some (.int v1), some (.int v2), some (.int (v3 + (-1 : Int32)))]) K d_M_keep_61 rfl (congrArg (fun z => v3 + z) (show Int32.ofInt (-1) = (-1 : Int32) by decide)) (Nat.le_of_ble_eq_true rfl) rfl ?_
        refine av_goto (tgt := 5) K d_M_keep_64 rfl ?_
        exact ih (v0) (v1) (v2) ((v3 + (-1 : Int32))) _ h
set_option maxRecDepth 100000 in
set_option maxHeartbeats 4000000 in
theorem v_M_keep (K : av_K p s m args meth c D cl8 ca A b_M_keep 4 R_M WS) (G : av_G NS tabON A s s.heap) (hr : meth.sig.returnType = none) (fu : Nat) {r : List va_E} (v0 : Nat) (v1 : Int32) (v2 : Int32) (w : List va_E) (h : f_M_keep fu v0 v1 v2 w = some r) : av_VV p l e rm_M_keep s m args below meth c D cl8 A ad ca 4 r 0 [some (.ref v0), some (.int v1), some (.int v2), none] [] w := by
  unfold f_M_keep at h
  refine av_aload_n K d_M_keep_0 rfl rfl ?_
  obtain ⟨x1, ex1, h⟩ := hp_bd h
  refine hv_gi K fl_M_113 d_M_keep_1 ex1 ?_
  refine av_istore_n (L' := [some (.ref v0), some (.int v1), some (.int v2), some (.int x1)]) K d_M_keep_4 rfl (Nat.le_of_ble_eq_true rfl) rfl ?_
  exact v_M_keep_5 K G hr fu fu (v0) (v1) (v2) (x1) _ h
end
set_option maxRecDepth 100000 in
theorem c_M_keep {l : Launch} {D : va_G} {ca : Nat → Nat} {tab : Nat → Int64} {fu : Nat} {v0 : Nat} {v1 : Int32} {v2 : Int32} {w : List va_E} {r : List va_E} (h : f_M_keep fu v0 v1 v2 w = some r) : av_Cv l D cl8 ca NS tabON y_M_keep w_M_keep rm_M_keep [.ref v0, .int v1, .int v2] w (fun u => u = r) :=
  av_inV (cc := b_M_keep) (nL := 4) (by decide +kernel) rfl (Nat.le_of_ble_eq_true rfl) (fun p e s m args below meth c A ad K G hr => v_M_keep K G hr fu v0 v1 v2 w h)

-- FaultTreeDeskModel.findPrimes()Z
theorem d_M_findPrimes_0 : decode b_M_findPrimes 0 = .ok (.aload_n 0, 1) := by decide +kernel
theorem d_M_findPrimes_1 : decode b_M_findPrimes 1 = .ok (.getfield 61, 3) := by decide +kernel
theorem d_M_findPrimes_4 : decode b_M_findPrimes 4 = .ok (.invokestatic 120, 3) := by decide +kernel
theorem d_M_findPrimes_7 : decode b_M_findPrimes 7 = .ok (.istore_n 1, 1) := by decide +kernel
theorem d_M_findPrimes_8 : decode b_M_findPrimes 8 = .ok (.iconst 0, 1) := by decide +kernel
theorem d_M_findPrimes_9 : decode b_M_findPrimes 9 = .ok (.istore_n 2, 1) := by decide +kernel
theorem d_M_findPrimes_10 : decode b_M_findPrimes 10 = .ok (.iload_n 2, 1) := by decide +kernel
theorem d_M_findPrimes_11 : decode b_M_findPrimes 11 = .ok (.iload_n 1, 1) := by decide +kernel
theorem d_M_findPrimes_12 : decode b_M_findPrimes 12 = .ok (.if_icmp .ge 128, 3) := by decide +kernel
theorem d_M_findPrimes_15 : decode b_M_findPrimes 15 = .ok (.aload_n 0, 1) := by decide +kernel
theorem d_M_findPrimes_16 : decode b_M_findPrimes 16 = .ok (.iload_n 2, 1) := by decide +kernel
theorem d_M_findPrimes_17 : decode b_M_findPrimes 17 = .ok (.invokevirtual 123, 3) := by decide +kernel
theorem d_M_findPrimes_20 : decode b_M_findPrimes 20 = .ok (.istore_n 3, 1) := by decide +kernel
theorem d_M_findPrimes_21 : decode b_M_findPrimes 21 = .ok (.iload_n 3, 1) := by decide +kernel
theorem d_M_findPrimes_22 : decode b_M_findPrimes 22 = .ok (.ifCond .lt 7, 3) := by decide +kernel
theorem d_M_findPrimes_25 : decode b_M_findPrimes 25 = .ok (.iconst 0, 1) := by decide +kernel
theorem d_M_findPrimes_26 : decode b_M_findPrimes 26 = .ok (.goto 9, 3) := by decide +kernel
theorem d_M_findPrimes_29 : decode b_M_findPrimes 29 = .ok (.iconst (-1), 1) := by decide +kernel
theorem d_M_findPrimes_30 : decode b_M_findPrimes 30 = .ok (.iload_n 3, 1) := by decide +kernel
theorem d_M_findPrimes_31 : decode b_M_findPrimes 31 = .ok (.isub, 1) := by decide +kernel
theorem d_M_findPrimes_32 : decode b_M_findPrimes 32 = .ok (.invokestatic 120, 3) := by decide +kernel
theorem d_M_findPrimes_35 : decode b_M_findPrimes 35 = .ok (.istore 4, 2) := by decide +kernel
theorem d_M_findPrimes_37 : decode b_M_findPrimes 37 = .ok (.iload_n 3, 1) := by decide +kernel
theorem d_M_findPrimes_38 : decode b_M_findPrimes 38 = .ok (.ifCond .lt 12, 3) := by decide +kernel
theorem d_M_findPrimes_41 : decode b_M_findPrimes 41 = .ok (.aload_n 0, 1) := by decide +kernel
theorem d_M_findPrimes_42 : decode b_M_findPrimes 42 = .ok (.getfield 45, 3) := by decide +kernel
theorem d_M_findPrimes_45 : decode b_M_findPrimes 45 = .ok (.iload_n 3, 1) := by decide +kernel
theorem d_M_findPrimes_46 : decode b_M_findPrimes 46 = .ok (.baload, 1) := by decide +kernel
theorem d_M_findPrimes_47 : decode b_M_findPrimes 47 = .ok (.goto 32, 3) := by decide +kernel
theorem d_M_findPrimes_50 : decode b_M_findPrimes 50 = .ok (.aload_n 0, 1) := by decide +kernel
theorem d_M_findPrimes_51 : decode b_M_findPrimes 51 = .ok (.iload_n 2, 1) := by decide +kernel
theorem d_M_findPrimes_52 : decode b_M_findPrimes 52 = .ok (.iload 4, 2) := by decide +kernel
theorem d_M_findPrimes_54 : decode b_M_findPrimes 54 = .ok (.isub, 1) := by decide +kernel
theorem d_M_findPrimes_55 : decode b_M_findPrimes 55 = .ok (.invokevirtual 106, 3) := by decide +kernel
theorem d_M_findPrimes_58 : decode b_M_findPrimes 58 = .ok (.ifCond .eq 20, 3) := by decide +kernel
theorem d_M_findPrimes_61 : decode b_M_findPrimes 61 = .ok (.aload_n 0, 1) := by decide +kernel
theorem d_M_findPrimes_62 : decode b_M_findPrimes 62 = .ok (.iload_n 2, 1) := by decide +kernel
theorem d_M_findPrimes_63 : decode b_M_findPrimes 63 = .ok (.iconst 2, 1) := by decide +kernel
theorem d_M_findPrimes_64 : decode b_M_findPrimes 64 = .ok (.iload 4, 2) := by decide +kernel
theorem d_M_findPrimes_66 : decode b_M_findPrimes 66 = .ok (.imul, 1) := by decide +kernel
theorem d_M_findPrimes_67 : decode b_M_findPrimes 67 = .ok (.isub, 1) := by decide +kernel
theorem d_M_findPrimes_68 : decode b_M_findPrimes 68 = .ok (.invokevirtual 106, 3) := by decide +kernel
theorem d_M_findPrimes_71 : decode b_M_findPrimes 71 = .ok (.ifCond .eq 7, 3) := by decide +kernel
theorem d_M_findPrimes_74 : decode b_M_findPrimes 74 = .ok (.iconst 1, 1) := by decide +kernel
theorem d_M_findPrimes_75 : decode b_M_findPrimes 75 = .ok (.goto 4, 3) := by decide +kernel
theorem d_M_findPrimes_78 : decode b_M_findPrimes 78 = .ok (.iconst 0, 1) := by decide +kernel
theorem d_M_findPrimes_79 : decode b_M_findPrimes 79 = .ok (.istore 5, 2) := by decide +kernel
theorem d_M_findPrimes_81 : decode b_M_findPrimes 81 = .ok (.lconst 1, 1) := by decide +kernel
theorem d_M_findPrimes_82 : decode b_M_findPrimes 82 = .ok (.iload_n 2, 1) := by decide +kernel
theorem d_M_findPrimes_83 : decode b_M_findPrimes 83 = .ok (.bipush 64, 2) := by decide +kernel
theorem d_M_findPrimes_85 : decode b_M_findPrimes 85 = .ok (.irem, 1) := by decide +kernel
theorem d_M_findPrimes_86 : decode b_M_findPrimes 86 = .ok (.lshl, 1) := by decide +kernel
theorem d_M_findPrimes_87 : decode b_M_findPrimes 87 = .ok (.lstore 6, 2) := by decide +kernel
theorem d_M_findPrimes_89 : decode b_M_findPrimes 89 = .ok (.aload_n 0, 1) := by decide +kernel
theorem d_M_findPrimes_90 : decode b_M_findPrimes 90 = .ok (.getfield 48, 3) := by decide +kernel
theorem d_M_findPrimes_93 : decode b_M_findPrimes 93 = .ok (.iload_n 2, 1) := by decide +kernel
theorem d_M_findPrimes_94 : decode b_M_findPrimes 94 = .ok (.bipush 64, 2) := by decide +kernel
theorem d_M_findPrimes_96 : decode b_M_findPrimes 96 = .ok (.idiv, 1) := by decide +kernel
theorem d_M_findPrimes_97 : decode b_M_findPrimes 97 = .ok (.iload 5, 2) := by decide +kernel
theorem d_M_findPrimes_99 : decode b_M_findPrimes 99 = .ok (.ifCond .eq 18, 3) := by decide +kernel
theorem d_M_findPrimes_102 : decode b_M_findPrimes 102 = .ok (.aload_n 0, 1) := by decide +kernel
theorem d_M_findPrimes_103 : decode b_M_findPrimes 103 = .ok (.getfield 48, 3) := by decide +kernel
theorem d_M_findPrimes_106 : decode b_M_findPrimes 106 = .ok (.iload_n 2, 1) := by decide +kernel
theorem d_M_findPrimes_107 : decode b_M_findPrimes 107 = .ok (.bipush 64, 2) := by decide +kernel
theorem d_M_findPrimes_109 : decode b_M_findPrimes 109 = .ok (.idiv, 1) := by decide +kernel
theorem d_M_findPrimes_110 : decode b_M_findPrimes 110 = .ok (.laload, 1) := by decide +kernel
theorem d_M_findPrimes_111 : decode b_M_findPrimes 111 = .ok (.lload 6, 2) := by decide +kernel
theorem d_M_findPrimes_113 : decode b_M_findPrimes 113 = .ok (.lor, 1) := by decide +kernel
theorem d_M_findPrimes_114 : decode b_M_findPrimes 114 = .ok (.goto 19, 3) := by decide +kernel
theorem d_M_findPrimes_117 : decode b_M_findPrimes 117 = .ok (.aload_n 0, 1) := by decide +kernel
theorem d_M_findPrimes_118 : decode b_M_findPrimes 118 = .ok (.getfield 48, 3) := by decide +kernel
theorem d_M_findPrimes_121 : decode b_M_findPrimes 121 = .ok (.iload_n 2, 1) := by decide +kernel
theorem d_M_findPrimes_122 : decode b_M_findPrimes 122 = .ok (.bipush 64, 2) := by decide +kernel
theorem d_M_findPrimes_124 : decode b_M_findPrimes 124 = .ok (.idiv, 1) := by decide +kernel
theorem d_M_findPrimes_125 : decode b_M_findPrimes 125 = .ok (.laload, 1) := by decide +kernel
theorem d_M_findPrimes_126 : decode b_M_findPrimes 126 = .ok (.lload 6, 2) := by decide +kernel
theorem d_M_findPrimes_128 : decode b_M_findPrimes 128 = .ok (.ldc2_w 126, 3) := by decide +kernel
theorem d_M_findPrimes_131 : decode b_M_findPrimes 131 = .ok (.lxor, 1) := by decide +kernel
theorem d_M_findPrimes_132 : decode b_M_findPrimes 132 = .ok (.land, 1) := by decide +kernel
theorem d_M_findPrimes_133 : decode b_M_findPrimes 133 = .ok (.lastore, 1) := by decide +kernel
theorem d_M_findPrimes_134 : decode b_M_findPrimes 134 = .ok (.iinc 2 1, 3) := by decide +kernel
theorem d_M_findPrimes_137 : decode b_M_findPrimes 137 = .ok (.goto (-127), 3) := by decide +kernel
theorem d_M_findPrimes_140 : decode b_M_findPrimes 140 = .ok (.aload_n 0, 1) := by decide +kernel
theorem d_M_findPrimes_141 : decode b_M_findPrimes 141 = .ok (.iconst 0, 1) := by decide +kernel
theorem d_M_findPrimes_142 : decode b_M_findPrimes 142 = .ok (.putfield 113, 3) := by decide +kernel
theorem d_M_findPrimes_145 : decode b_M_findPrimes 145 = .ok (.iconst 0, 1) := by decide +kernel
theorem d_M_findPrimes_146 : decode b_M_findPrimes 146 = .ok (.istore_n 2, 1) := by decide +kernel
theorem d_M_findPrimes_147 : decode b_M_findPrimes 147 = .ok (.iload_n 2, 1) := by decide +kernel
theorem d_M_findPrimes_148 : decode b_M_findPrimes 148 = .ok (.iload_n 1, 1) := by decide +kernel
theorem d_M_findPrimes_149 : decode b_M_findPrimes 149 = .ok (.if_icmp .ge 45, 3) := by decide +kernel
theorem d_M_findPrimes_152 : decode b_M_findPrimes 152 = .ok (.aload_n 0, 1) := by decide +kernel
theorem d_M_findPrimes_153 : decode b_M_findPrimes 153 = .ok (.iload_n 2, 1) := by decide +kernel
theorem d_M_findPrimes_154 : decode b_M_findPrimes 154 = .ok (.invokevirtual 128, 3) := by decide +kernel
theorem d_M_findPrimes_157 : decode b_M_findPrimes 157 = .ok (.ifCond .eq 31, 3) := by decide +kernel
theorem d_M_findPrimes_160 : decode b_M_findPrimes 160 = .ok (.aload_n 0, 1) := by decide +kernel
theorem d_M_findPrimes_161 : decode b_M_findPrimes 161 = .ok (.getfield 113, 3) := by decide +kernel
theorem d_M_findPrimes_164 : decode b_M_findPrimes 164 = .ok (.sipush 300, 3) := by decide +kernel
theorem d_M_findPrimes_167 : decode b_M_findPrimes 167 = .ok (.if_icmp .ne 5, 3) := by decide +kernel
theorem d_M_findPrimes_170 : decode b_M_findPrimes 170 = .ok (.iconst 0, 1) := by decide +kernel
theorem d_M_findPrimes_171 : decode b_M_findPrimes 171 = .ok (.ireturn, 1) := by decide +kernel
theorem d_M_findPrimes_172 : decode b_M_findPrimes 172 = .ok (.aload_n 0, 1) := by decide +kernel
theorem d_M_findPrimes_173 : decode b_M_findPrimes 173 = .ok (.aload_n 0, 1) := by decide +kernel
theorem d_M_findPrimes_174 : decode b_M_findPrimes 174 = .ok (.iload_n 2, 1) := by decide +kernel
theorem d_M_findPrimes_175 : decode b_M_findPrimes 175 = .ok (.iconst 1, 1) := by decide +kernel
theorem d_M_findPrimes_176 : decode b_M_findPrimes 176 = .ok (.invokevirtual 131, 3) := by decide +kernel
theorem d_M_findPrimes_179 : decode b_M_findPrimes 179 = .ok (.aload_n 0, 1) := by decide +kernel
theorem d_M_findPrimes_180 : decode b_M_findPrimes 180 = .ok (.iload_n 2, 1) := by decide +kernel
theorem d_M_findPrimes_181 : decode b_M_findPrimes 181 = .ok (.iconst 0, 1) := by decide +kernel
theorem d_M_findPrimes_182 : decode b_M_findPrimes 182 = .ok (.invokevirtual 131, 3) := by decide +kernel
theorem d_M_findPrimes_185 : decode b_M_findPrimes 185 = .ok (.invokevirtual 135, 3) := by decide +kernel
theorem d_M_findPrimes_188 : decode b_M_findPrimes 188 = .ok (.iinc 2 1, 3) := by decide +kernel
theorem d_M_findPrimes_191 : decode b_M_findPrimes 191 = .ok (.goto (-44), 3) := by decide +kernel
theorem d_M_findPrimes_194 : decode b_M_findPrimes 194 = .ok (.iconst 1, 1) := by decide +kernel
theorem d_M_findPrimes_195 : decode b_M_findPrimes 195 = .ok (.ireturn, 1) := by decide +kernel
def rm_M_findPrimes : Room := { frames := 3, cells := 0, slots := 0, locals := 69 }
def f_M_findPrimes_133 (fu : Nat) (k10 : Nat → Int32 → Int32 → List va_E → Option (Int32 × List va_E)) (v0 : Nat) (v1 : Int32) (v2 : Int32) (s0 : Nat) (s1 : Int32) (s2 : Int64) (w : List va_E) : Option (Int32 × List va_E) := ((hp_wl w s0 s1 s2).bind fun w1 => (k10 (v0) (v1) ((v2 + (1 : Int32))) w1))
def f_M_findPrimes_79 (fu : Nat) (k10 : Nat → Int32 → Int32 → List va_E → Option (Int32 × List va_E)) (v0 : Nat) (v1 : Int32) (v2 : Int32) (s0 : Int32) (w : List va_E) : Option (Int32 × List va_E) := ((hp_gr w v0 7 15).bind fun q1 => (if s0 = 0 then ((hp_gr w v0 7 15).bind fun q2 => ((hp_rl w q2 (v2 / (64 : Int32))).bind fun y3 => (f_M_findPrimes_133 fu k10 (v0) (v1) (v2) (q1) ((v2 / (64 : Int32))) ((y3 &&& (((1 : Int64) <<< (((v2 - v2 / (64 : Int32) * (64 : Int32))).toInt64 &&& 63)) ^^^ (-1 : Int64)))) w))) else ((hp_gr w v0 7 15).bind fun q4 => ((hp_rl w q4 (v2 / (64 : Int32))).bind fun y5 => (f_M_findPrimes_133 fu k10 (v0) (v1) (v2) (q1) ((v2 / (64 : Int32))) ((y5 ||| ((1 : Int64) <<< (((v2 - v2 / (64 : Int32) * (64 : Int32))).toInt64 &&& 63)))) w)))))
def f_M_findPrimes_78 (fu : Nat) (k10 : Nat → Int32 → Int32 → List va_E → Option (Int32 × List va_E)) (v0 : Nat) (v1 : Int32) (v2 : Int32) (w : List va_E) : Option (Int32 × List va_E) := (f_M_findPrimes_79 fu k10 (v0) (v1) (v2) ((0 : Int32)) w)
def f_M_findPrimes_35 (fu : Nat) (k10 : Nat → Int32 → Int32 → List va_E → Option (Int32 × List va_E)) (v0 : Nat) (v1 : Int32) (v2 : Int32) (v3 : Int32) (s0 : Int32) (w : List va_E) : Option (Int32 × List va_E) := (if v3 < 0 then ((hp_is w v0 7).bind fun _ => ((f_M_isCause fu v0 (v2 - s0) w).bind fun r1 => (if r1.1 = 0 then (f_M_findPrimes_78 fu k10 (v0) (v1) (v2) r1.2) else ((hp_is r1.2 v0 7).bind fun _ => ((f_M_isCause fu v0 (v2 - ((2 : Int32) * s0)) r1.2).bind fun r2 => (if r2.1 = 0 then (f_M_findPrimes_78 fu k10 (v0) (v1) (v2) r2.2) else (f_M_findPrimes_79 fu k10 (v0) (v1) (v2) ((1 : Int32)) r2.2))))))) else ((hp_gr w v0 7 14).bind fun q3 => ((hp_rz w q3 v3).bind fun x4 => (f_M_findPrimes_79 fu k10 (v0) (v1) (v2) (x4) w))))
def f_M_findPrimes_188 (fu : Nat) (k147 : Nat → Int32 → Int32 → List va_E → Option (Int32 × List va_E)) (v0 : Nat) (v1 : Int32) (v2 : Int32) (w : List va_E) : Option (Int32 × List va_E) := (k147 (v0) (v1) ((v2 + (1 : Int32))) w)
def f_M_findPrimes_147 (fu : Nat) : Nat → Nat → Int32 → Int32 → List va_E → Option (Int32 × List va_E)
  | 0, _, _, _, _ => none
  | n + 1, v0, v1, v2, w => (if v1 ≤ v2 then (if (1 : Int32) = 0 ∨ (1 : Int32) = 1 then some ((1 : Int32), w) else none) else ((hp_is w v0 7).bind fun _ => ((f_M_isPrime fu v0 v2 w).bind fun r1 => (if r1.1 = 0 then (f_M_findPrimes_188 fu (f_M_findPrimes_147 fu n) (v0) (v1) (v2) r1.2) else ((hp_gi r1.2 v0 7 16).bind fun x2 => (if x2 = (300 : Int32) then (if (0 : Int32) = 0 ∨ (0 : Int32) = 1 then some ((0 : Int32), r1.2) else none) else ((hp_is r1.2 v0 7).bind fun _ => ((f_M_eventsOf fu v0 v2 (1 : Int32) r1.2).bind fun r3 => ((hp_is r3.2 v0 7).bind fun _ => ((f_M_eventsOf fu v0 v2 (0 : Int32) r3.2).bind fun r4 => ((hp_is r4.2 v0 7).bind fun _ => ((f_M_keep fu v0 r3.1 r4.1 r4.2).bind fun r5 => (f_M_findPrimes_188 fu (f_M_findPrimes_147 fu n) (v0) (v1) (v2) r5)))))))))))))
def f_M_findPrimes_10 (fu : Nat) : Nat → Nat → Int32 → Int32 → List va_E → Option (Int32 × List va_E)
  | 0, _, _, _, _ => none
  | n + 1, v0, v1, v2, w => (if v1 ≤ v2 then ((hp_pi w v0 7 16 (0 : Int32)).bind fun w1 => (f_M_findPrimes_147 fu fu (v0) (v1) ((0 : Int32)) w1)) else ((hp_is w v0 7).bind fun _ => ((f_M_settingOf fu v0 v2 w).bind fun r2 => (if r2.1 < 0 then ((f_M_power fu ((-1 : Int32) - r2.1) r2.2).bind fun r3 => (f_M_findPrimes_35 fu (f_M_findPrimes_10 fu n) (v0) (v1) (v2) (r2.1) (r3.1) r3.2)) else (f_M_findPrimes_35 fu (f_M_findPrimes_10 fu n) (v0) (v1) (v2) (r2.1) ((0 : Int32)) r2.2)))))
def f_M_findPrimes (fu : Nat) (v0 : Nat) (w : List va_E) : Option (Int32 × List va_E) := ((hp_gi w v0 7 1).bind fun x1 => ((f_M_power fu x1 w).bind fun r2 => (f_M_findPrimes_10 fu fu (v0) (r2.1) ((0 : Int32)) r2.2)))
section
variable {p : Program} {l : Launch} {e : Env} {s : State} {m : MethodId} {args : Array Value} {below : List Frame} {meth : Method} {c : Code} {D : va_G} {ca : Nat → Nat} {A : Nat → Prop} {ad : Nat → Nat}
set_option maxRecDepth 100000 in
set_option maxHeartbeats 4000000 in
theorem v_M_findPrimes_133 (K : av_K p s m args meth c D cl8 ca A b_M_findPrimes 8 R_M WS) (G : av_G NS tabON A s s.heap) (hr : meth.sig.returnType = some .boolean) (fu : Nat) {r : Int32 × List va_E} (k10 : Nat → Int32 → Int32 → List va_E → Option (Int32 × List va_E)) (hk10 : ∀ (v0 : Nat) (v1 : Int32) (v2 : Int32) (w : List va_E), k10 v0 v1 v2 w = some r → av_VI p l e rm_M_findPrimes s m args below meth c D cl8 A ad ca 8 r 10 [some (.ref v0), some (.int v1), some (.int v2), none, none, none, none, none] [] w) (v0 : Nat) (v1 : Int32) (v2 : Int32) (s0 : Nat) (s1 : Int32) (s2 : Int64) (w : List va_E) (h : f_M_findPrimes_133 fu k10 v0 v1 v2 s0 s1 s2 w = some r) : av_VI p l e rm_M_findPrimes s m args below meth c D cl8 A ad ca 8 r 133 [some (.ref v0), some (.int v1), some (.int v2), none, none, none, none, none] [.long s2, .int s1, .ref s0] w := by
  unfold f_M_findPrimes_133 at h
  obtain ⟨w1, ew1, h⟩ := hp_bd h
  refine hv_wl K d_M_findPrimes_133 ew1 ?_
  refine av_iinc (v := (v2 + (1 : Int32))) (L' := [some (.ref v0), some (.int v1), some (.int (v2 + (1 : Int32))), none, none, none, none, none]) K d_M_findPrimes_134 rfl (congrArg (fun z => v2 + z) (show Int32.ofInt 1 = (1 : Int32) by decide)) (Nat.le_of_ble_eq_true rfl) rfl ?_
  refine av_goto (tgt := 10) K d_M_findPrimes_137 rfl ?_
  exact hk10 (v0) (v1) ((v2 + (1 : Int32))) _ h
set_option maxRecDepth 100000 in
set_option maxHeartbeats 4000000 in
theorem v_M_findPrimes_79 (K : av_K p s m args meth c D cl8 ca A b_M_findPrimes 8 R_M WS) (G : av_G NS tabON A s s.heap) (hr : meth.sig.returnType = some .boolean) (fu : Nat) {r : Int32 × List va_E} (k10 : Nat → Int32 → Int32 → List va_E → Option (Int32 × List va_E)) (hk10 : ∀ (v0 : Nat) (v1 : Int32) (v2 : Int32) (w : List va_E), k10 v0 v1 v2 w = some r → av_VI p l e rm_M_findPrimes s m args below meth c D cl8 A ad ca 8 r 10 [some (.ref v0), some (.int v1), some (.int v2), none, none, none, none, none] [] w) (v0 : Nat) (v1 : Int32) (v2 : Int32) (s0 : Int32) (w : List va_E) (h : f_M_findPrimes_79 fu k10 v0 v1 v2 s0 w = some r) : av_VI p l e rm_M_findPrimes s m args below meth c D cl8 A ad ca 8 r 79 [some (.ref v0), some (.int v1), some (.int v2), none, none, none, none, none] [.int s0] w := by
  unfold f_M_findPrimes_79 at h
  refine av_istore (L' := [some (.ref v0), some (.int v1), some (.int v2), none, none, some (.int s0), none, none]) K d_M_findPrimes_79 (Nat.le_of_ble_eq_true rfl) rfl ?_
  refine av_lconst (v := (1 : Int64)) K d_M_findPrimes_81 (by decide) ?_
  refine av_iload_n K d_M_findPrimes_82 rfl rfl ?_
  refine av_bipush (v := (64 : Int32)) K d_M_findPrimes_83 (by decide) ?_
  refine av_irem K d_M_findPrimes_85 (by decide) ?_
  refine av_lshl K d_M_findPrimes_86 ?_
  refine av_lstore (L' := [some (.ref v0), some (.int v1), some (.int v2), none, none, some (.int s0), some (.long ((1 : Int64) <<< (((v2 - v2 / (64 : Int32) * (64 : Int32))).toInt64 &&& 63))), none]) K d_M_findPrimes_87 (Nat.le_of_ble_eq_true rfl) rfl ?_
  refine av_aload_n K d_M_findPrimes_89 rfl rfl ?_
  obtain ⟨q1, eq1, h⟩ := hp_bd h
  refine hv_gr K fl_M_48 d_M_findPrimes_90 eq1 ?_
  refine av_iload_n K d_M_findPrimes_93 rfl rfl ?_
  refine av_bipush (v := (64 : Int32)) K d_M_findPrimes_94 (by decide) ?_
  refine av_idiv K d_M_findPrimes_96 (by decide) ?_
  refine av_iload K d_M_findPrimes_97 rfl ?_
  refine av_if_eq (tgt := 117) K d_M_findPrimes_99 rfl (fun hc => ?_) (fun hc => ?_)
  · rw [if_pos hc] at h
    refine av_aload_n K d_M_findPrimes_117 rfl rfl ?_
    obtain ⟨q2, eq2, h⟩ := hp_bd h
    refine hv_gr K fl_M_48 d_M_findPrimes_118 eq2 ?_
    refine av_iload_n K d_M_findPrimes_121 rfl rfl ?_
    refine av_bipush (v := (64 : Int32)) K d_M_findPrimes_122 (by decide) ?_
    refine av_idiv K d_M_findPrimes_124 (by decide) ?_
    obtain ⟨y3, ey3, h⟩ := hp_bd h
    refine hv_rl K d_M_findPrimes_125 ey3 ?_
    refine av_lload K d_M_findPrimes_126 rfl ?_
    refine av_ldc2 K (cl_M_126) d_M_findPrimes_128 ?_
    refine av_lxor K d_M_findPrimes_131 ?_
    refine av_land K d_M_findPrimes_132 ?_
    refine hv_fg (L' := [some (.ref v0), some (.int v1), some (.int v2), none, none, none, none, none]) [5, 6] rfl ?_
    exact v_M_findPrimes_133 K G hr fu k10 hk10 (v0) (v1) (v2) (q1) ((v2 / (64 : Int32))) ((y3 &&& (((1 : Int64) <<< (((v2 - v2 / (64 : Int32) * (64 : Int32))).toInt64 &&& 63)) ^^^ (-1 : Int64)))) _ h
  · rw [if_neg hc] at h
    refine av_aload_n K d_M_findPrimes_102 rfl rfl ?_
    obtain ⟨q4, eq4, h⟩ := hp_bd h
    refine hv_gr K fl_M_48 d_M_findPrimes_103 eq4 ?_
    refine av_iload_n K d_M_findPrimes_106 rfl rfl ?_
    refine av_bipush (v := (64 : Int32)) K d_M_findPrimes_107 (by decide) ?_
    refine av_idiv K d_M_findPrimes_109 (by decide) ?_
    obtain ⟨y5, ey5, h⟩ := hp_bd h
    refine hv_rl K d_M_findPrimes_110 ey5 ?_
    refine av_lload K d_M_findPrimes_111 rfl ?_
    refine av_lor K d_M_findPrimes_113 ?_
    refine av_goto (tgt := 133) K d_M_findPrimes_114 rfl ?_
    refine hv_fg (L' := [some (.ref v0), some (.int v1), some (.int v2), none, none, none, none, none]) [5, 6] rfl ?_
    exact v_M_findPrimes_133 K G hr fu k10 hk10 (v0) (v1) (v2) (q1) ((v2 / (64 : Int32))) ((y5 ||| ((1 : Int64) <<< (((v2 - v2 / (64 : Int32) * (64 : Int32))).toInt64 &&& 63)))) _ h
set_option maxRecDepth 100000 in
set_option maxHeartbeats 4000000 in
theorem v_M_findPrimes_78 (K : av_K p s m args meth c D cl8 ca A b_M_findPrimes 8 R_M WS) (G : av_G NS tabON A s s.heap) (hr : meth.sig.returnType = some .boolean) (fu : Nat) {r : Int32 × List va_E} (k10 : Nat → Int32 → Int32 → List va_E → Option (Int32 × List va_E)) (hk10 : ∀ (v0 : Nat) (v1 : Int32) (v2 : Int32) (w : List va_E), k10 v0 v1 v2 w = some r → av_VI p l e rm_M_findPrimes s m args below meth c D cl8 A ad ca 8 r 10 [some (.ref v0), some (.int v1), some (.int v2), none, none, none, none, none] [] w) (v0 : Nat) (v1 : Int32) (v2 : Int32) (w : List va_E) (h : f_M_findPrimes_78 fu k10 v0 v1 v2 w = some r) : av_VI p l e rm_M_findPrimes s m args below meth c D cl8 A ad ca 8 r 78 [some (.ref v0), some (.int v1), some (.int v2), none, none, none, none, none] [] w := by
  unfold f_M_findPrimes_78 at h
  refine av_iconst (v := (0 : Int32)) K d_M_findPrimes_78 (by decide) ?_
  exact v_M_findPrimes_79 K G hr fu k10 hk10 (v0) (v1) (v2) ((0 : Int32)) _ h
set_option maxRecDepth 100000 in
set_option maxHeartbeats 4000000 in
theorem v_M_findPrimes_35 (K : av_K p s m args meth c D cl8 ca A b_M_findPrimes 8 R_M WS) (G : av_G NS tabON A s s.heap) (hr : meth.sig.returnType = some .boolean) (fu : Nat) {r : Int32 × List va_E} (k10 : Nat → Int32 → Int32 → List va_E → Option (Int32 × List va_E)) (hk10 : ∀ (v0 : Nat) (v1 : Int32) (v2 : Int32) (w : List va_E), k10 v0 v1 v2 w = some r → av_VI p l e rm_M_findPrimes s m args below meth c D cl8 A ad ca 8 r 10 [some (.ref v0), some (.int v1), some (.int v2), none, none, none, none, none] [] w) (v0 : Nat) (v1 : Int32) (v2 : Int32) (v3 : Int32) (s0 : Int32) (w : List va_E) (h : f_M_findPrimes_35 fu k10 v0 v1 v2 v3 s0 w = some r) : av_VI p l e rm_M_findPrimes s m args below meth c D cl8 A ad ca 8 r 35 [some (.ref v0), some (.int v1), some (.int v2), some (.int v3), none, none, none, none] [.int s0] w := by
  unfold f_M_findPrimes_35 at h
  refine av_istore (L' := [some (.ref v0), some (.int v1), some (.int v2), some (.int v3), some (.int s0), none, none, none]) K d_M_findPrimes_35 (Nat.le_of_ble_eq_true rfl) rfl ?_
  refine av_iload_n K d_M_findPrimes_37 rfl rfl ?_
  refine av_if_lt (tgt := 50) K d_M_findPrimes_38 rfl (fun hc => ?_) (fun hc => ?_)
  · rw [if_pos hc] at h
    refine av_aload_n K d_M_findPrimes_50 rfl rfl ?_
    refine av_iload_n K d_M_findPrimes_51 rfl rfl ?_
    refine av_iload K d_M_findPrimes_52 rfl ?_
    refine av_isub K d_M_findPrimes_54 ?_
    obtain ⟨_, eo55, h⟩ := hp_bd h
    obtain ⟨r1, er1, h⟩ := hp_bd h
    obtain ⟨fs55, ho55⟩ := hp_is_of eo55
    refine av_cVi K G (c_M_isCause (tab := tabON) er1) (cwV 1 K.2.2.2.2.1 (gV ml_M_106 im_M_isCause se_M_isCause in_M co_M_isCause) rfl rfl rfl cd_M_isCause ⟨Nat.le_of_ble_eq_true rfl, Nat.le_of_ble_eq_true rfl⟩) rfl ho55 rfl rfl (Nat.le_of_ble_eq_true rfl) d_M_findPrimes_55 ⟨Nat.zero_le _, Nat.zero_le _⟩ (fun a9 u9 h9 => ?_)
    obtain ⟨rfl, rfl⟩ : a9 = r1.1 ∧ u9 = r1.2 := ⟨congrArg Prod.fst h9, congrArg Prod.snd h9⟩
    refine av_if_eq (tgt := 78) K d_M_findPrimes_58 rfl (fun hc => ?_) (fun hc => ?_)
    · rw [if_pos hc] at h
      refine hv_fg (L' := [some (.ref v0), some (.int v1), some (.int v2), none, none, none, none, none]) [3, 4] rfl ?_
      exact v_M_findPrimes_78 K G hr fu k10 hk10 (v0) (v1) (v2) _ h
    · rw [if_neg hc] at h
      refine av_aload_n K d_M_findPrimes_61 rfl rfl ?_
      refine av_iload_n K d_M_findPrimes_62 rfl rfl ?_
      refine av_iconst (v := (2 : Int32)) K d_M_findPrimes_63 (by decide) ?_
      refine av_iload K d_M_findPrimes_64 rfl ?_
      refine av_imul K d_M_findPrimes_66 ?_
      refine av_isub K d_M_findPrimes_67 ?_
      obtain ⟨_, eo68, h⟩ := hp_bd h
      obtain ⟨r2, er2, h⟩ := hp_bd h
      obtain ⟨fs68, ho68⟩ := hp_is_of eo68
      refine av_cVi K G (c_M_isCause (tab := tabON) er2) (cwV 1 K.2.2.2.2.1 (gV ml_M_106 im_M_isCause se_M_isCause in_M co_M_isCause) rfl rfl rfl cd_M_isCause ⟨Nat.le_of_ble_eq_true rfl, Nat.le_of_ble_eq_true rfl⟩) rfl ho68 rfl rfl (Nat.le_of_ble_eq_true rfl) d_M_findPrimes_68 ⟨Nat.zero_le _, Nat.zero_le _⟩ (fun a9 u9 h9 => ?_)
      obtain ⟨rfl, rfl⟩ : a9 = r2.1 ∧ u9 = r2.2 := ⟨congrArg Prod.fst h9, congrArg Prod.snd h9⟩
      refine av_if_eq (tgt := 78) K d_M_findPrimes_71 rfl (fun hc => ?_) (fun hc => ?_)
      · rw [if_pos hc] at h
        refine hv_fg (L' := [some (.ref v0), some (.int v1), some (.int v2), none, none, none, none, none]) [3, 4] rfl ?_
        exact v_M_findPrimes_78 K G hr fu k10 hk10 (v0) (v1) (v2) _ h
      · rw [if_neg hc] at h
        refine av_iconst (v := (1 : Int32)) K d_M_findPrimes_74 (by decide) ?_
        refine av_goto (tgt := 79) K d_M_findPrimes_75 rfl ?_
        refine hv_fg (L' := [some (.ref v0), some (.int v1), some (.int v2), none, none, none, none, none]) [3, 4] rfl ?_
        exact v_M_findPrimes_79 K G hr fu k10 hk10 (v0) (v1) (v2) ((1 : Int32)) _ h
  · rw [if_neg hc] at h
    refine av_aload_n K d_M_findPrimes_41 rfl rfl ?_
    obtain ⟨q3, eq3, h⟩ := hp_bd h
    refine hv_gr K fl_M_45 d_M_findPrimes_42 eq3 ?_
    refine av_iload_n K d_M_findPrimes_45 rfl rfl ?_
    obtain ⟨x4, ex4, h⟩ := hp_bd h
    refine hv_rz K d_M_findPrimes_46 ex4 ?_
    refine av_goto (tgt := 79) K d_M_findPrimes_47 rfl ?_
    refine hv_fg (L' := [some (.ref v0), some (.int v1), some (.int v2), none, none, none, none, none]) [3, 4] rfl ?_
    exact v_M_findPrimes_79 K G hr fu k10 hk10 (v0) (v1) (v2) (x4) _ h
set_option maxRecDepth 100000 in
set_option maxHeartbeats 4000000 in
theorem v_M_findPrimes_188 (K : av_K p s m args meth c D cl8 ca A b_M_findPrimes 8 R_M WS) (G : av_G NS tabON A s s.heap) (hr : meth.sig.returnType = some .boolean) (fu : Nat) {r : Int32 × List va_E} (k147 : Nat → Int32 → Int32 → List va_E → Option (Int32 × List va_E)) (hk147 : ∀ (v0 : Nat) (v1 : Int32) (v2 : Int32) (w : List va_E), k147 v0 v1 v2 w = some r → av_VI p l e rm_M_findPrimes s m args below meth c D cl8 A ad ca 8 r 147 [some (.ref v0), some (.int v1), some (.int v2), none, none, none, none, none] [] w) (v0 : Nat) (v1 : Int32) (v2 : Int32) (w : List va_E) (h : f_M_findPrimes_188 fu k147 v0 v1 v2 w = some r) : av_VI p l e rm_M_findPrimes s m args below meth c D cl8 A ad ca 8 r 188 [some (.ref v0), some (.int v1), some (.int v2), none, none, none, none, none] [] w := by
  unfold f_M_findPrimes_188 at h
  refine av_iinc (v := (v2 + (1 : Int32))) (L' := [some (.ref v0), some (.int v1), some (.int (v2 + (1 : Int32))), none, none, none, none, none]) K d_M_findPrimes_188 rfl (congrArg (fun z => v2 + z) (show Int32.ofInt 1 = (1 : Int32) by decide)) (Nat.le_of_ble_eq_true rfl) rfl ?_
  refine av_goto (tgt := 147) K d_M_findPrimes_191 rfl ?_
  exact hk147 (v0) (v1) ((v2 + (1 : Int32))) _ h
set_option maxRecDepth 100000 in
set_option maxHeartbeats 4000000 in
theorem v_M_findPrimes_147 (K : av_K p s m args meth c D cl8 ca A b_M_findPrimes 8 R_M WS) (G : av_G NS tabON A s s.heap) (hr : meth.sig.returnType = some .boolean) (fu : Nat) {r : Int32 × List va_E} : ∀ (n : Nat) (v0 : Nat) (v1 : Int32) (v2 : Int32) (w : List va_E), f_M_findPrimes_147 fu n v0 v1 v2 w = some r → av_VI p l e rm_M_findPrimes s m args below meth c D cl8 A ad ca 8 r 147 [some (.ref v0), some (.int v1), some (.int v2), none, none, none, none, none] [] w := by
  intro n
  induction n with
  | zero => intro _ _ _ _ h; cases h
  | succ n ih =>
    intro v0 v1 v2 w h
    unfold f_M_findPrimes_147 at h
    refine av_iload_n K d_M_findPrimes_147 rfl rfl ?_
    refine av_iload_n K d_M_findPrimes_148 rfl rfl ?_
    refine av_icmp_ge (tgt := 194) K d_M_findPrimes_149 rfl (fun hc => ?_) (fun hc => ?_)
    · rw [if_pos hc] at h
      refine av_iconst (v := (1 : Int32)) K d_M_findPrimes_194 (by decide) ?_
      obtain ⟨hz, h⟩ := hp_if h
      obtain rfl := Option.some.inj h
      exact av_zreturn K hr (hp_nz hz) d_M_findPrimes_195 rfl
    · rw [if_neg hc] at h
      refine av_aload_n K d_M_findPrimes_152 rfl rfl ?_
      refine av_iload_n K d_M_findPrimes_153 rfl rfl ?_
      obtain ⟨_, eo154, h⟩ := hp_bd h
      obtain ⟨r1, er1, h⟩ := hp_bd h
      obtain ⟨fs154, ho154⟩ := hp_is_of eo154
      refine av_cVi K G (c_M_isPrime (tab := tabON) er1) (cwV 1 K.2.2.2.2.1 (gV ml_M_128 im_M_isPrime se_M_isPrime in_M co_M_isPrime) rfl rfl rfl cd_M_isPrime ⟨Nat.le_of_ble_eq_true rfl, Nat.le_of_ble_eq_true rfl⟩) rfl ho154 rfl rfl (Nat.le_of_ble_eq_true rfl) d_M_findPrimes_154 ⟨Nat.zero_le _, Nat.zero_le _⟩ (fun a9 u9 h9 => ?_)
      obtain ⟨rfl, rfl⟩ : a9 = r1.1 ∧ u9 = r1.2 := ⟨congrArg Prod.fst h9, congrArg Prod.snd h9⟩
      refine av_if_eq (tgt := 188) K d_M_findPrimes_157 rfl (fun hc => ?_) (fun hc => ?_)
      · rw [if_pos hc] at h
        exact v_M_findPrimes_188 K G hr fu (f_M_findPrimes_147 fu n) ih (v0) (v1) (v2) _ h
      · rw [if_neg hc] at h
        refine av_aload_n K d_M_findPrimes_160 rfl rfl ?_
        obtain ⟨x2, ex2, h⟩ := hp_bd h
        refine hv_gi K fl_M_113 d_M_findPrimes_161 ex2 ?_
        refine av_sipush (v := (300 : Int32)) K d_M_findPrimes_164 (by decide) ?_
        refine av_icmp_ne (tgt := 172) K d_M_findPrimes_167 rfl (fun hc => ?_) (fun hc => ?_)
        · rw [if_neg hc] at h
          refine av_aload_n K d_M_findPrimes_172 rfl rfl ?_
          refine av_aload_n K d_M_findPrimes_173 rfl rfl ?_
          refine av_iload_n K d_M_findPrimes_174 rfl rfl ?_
          refine av_iconst (v := (1 : Int32)) K d_M_findPrimes_175 (by decide) ?_
          obtain ⟨_, eo176, h⟩ := hp_bd h
          obtain ⟨r3, er3, h⟩ := hp_bd h
          obtain ⟨fs176, ho176⟩ := hp_is_of eo176
          refine av_cVi K G (c_M_eventsOf (tab := tabON) er3) (cwV 2 K.2.2.2.2.1 (gV ml_M_131 im_M_eventsOf se_M_eventsOf in_M co_M_eventsOf) rfl rfl rfl cd_M_eventsOf ⟨Nat.le_of_ble_eq_true rfl, Nat.le_of_ble_eq_true rfl⟩) rfl ho176 rfl rfl (Nat.le_of_ble_eq_true rfl) d_M_findPrimes_176 ⟨Nat.zero_le _, Nat.zero_le _⟩ (fun a9 u9 h9 => ?_)
          obtain ⟨rfl, rfl⟩ : a9 = r3.1 ∧ u9 = r3.2 := ⟨congrArg Prod.fst h9, congrArg Prod.snd h9⟩
          refine av_aload_n K d_M_findPrimes_179 rfl rfl ?_
          refine av_iload_n K d_M_findPrimes_180 rfl rfl ?_
          refine av_iconst (v := (0 : Int32)) K d_M_findPrimes_181 (by decide) ?_
          obtain ⟨_, eo182, h⟩ := hp_bd h
          obtain ⟨r4, er4, h⟩ := hp_bd h
          obtain ⟨fs182, ho182⟩ := hp_is_of eo182
          refine av_cVi K G (c_M_eventsOf (tab := tabON) er4) (cwV 2 K.2.2.2.2.1 (gV ml_M_131 im_M_eventsOf se_M_eventsOf in_M co_M_eventsOf) rfl rfl rfl cd_M_eventsOf ⟨Nat.le_of_ble_eq_true rfl, Nat.le_of_ble_eq_true rfl⟩) rfl ho182 rfl rfl (Nat.le_of_ble_eq_true rfl) d_M_findPrimes_182 ⟨Nat.zero_le _, Nat.zero_le _⟩ (fun a9 u9 h9 => ?_)
          obtain ⟨rfl, rfl⟩ : a9 = r4.1 ∧ u9 = r4.2 := ⟨congrArg Prod.fst h9, congrArg Prod.snd h9⟩
          obtain ⟨_, eo185, h⟩ := hp_bd h
          obtain ⟨r5, er5, h⟩ := hp_bd h
          obtain ⟨fs185, ho185⟩ := hp_is_of eo185
          refine av_cVv K G (c_M_keep (tab := tabON) er5) (cwV 2 K.2.2.2.2.1 (gV ml_M_135 im_M_keep se_M_keep in_M co_M_keep) rfl rfl rfl cd_M_keep ⟨Nat.le_of_ble_eq_true rfl, Nat.le_of_ble_eq_true rfl⟩) rfl ho185 rfl rfl (Nat.le_of_ble_eq_true rfl) d_M_findPrimes_185 ⟨Nat.zero_le _, Nat.zero_le _⟩ (fun u9 h9 => ?_)
          subst h9
          exact v_M_findPrimes_188 K G hr fu (f_M_findPrimes_147 fu n) ih (v0) (v1) (v2) _ h
        · rw [if_pos hc] at h
          refine av_iconst (v := (0 : Int32)) K d_M_findPrimes_170 (by decide) ?_
          obtain ⟨hz, h⟩ := hp_if h
          obtain rfl := Option.some.inj h
          exact av_zreturn K hr (hp_nz hz) d_M_findPrimes_171 rfl
set_option maxRecDepth 100000 in
set_option maxHeartbeats 4000000 in
theorem v_M_findPrimes_10 (K : av_K p s m args meth c D cl8 ca A b_M_findPrimes 8 R_M WS) (G : av_G NS tabON A s s.heap) (hr : meth.sig.returnType = some .boolean) (fu : Nat) {r : Int32 × List va_E} : ∀ (n : Nat) (v0 : Nat) (v1 : Int32) (v2 : Int32) (w : List va_E), f_M_findPrimes_10 fu n v0 v1 v2 w = some r → av_VI p l e rm_M_findPrimes s m args below meth c D cl8 A ad ca 8 r 10 [some (.ref v0), some (.int v1), some (.int v2), none, none, none, none, none] [] w := by
  intro n
  induction n with
  | zero => intro _ _ _ _ h; cases h
  | succ n ih =>
    intro v0 v1 v2 w h
    unfold f_M_findPrimes_10 at h
    refine av_iload_n K d_M_findPrimes_10 rfl rfl ?_
    refine av_iload_n K d_M_findPrimes_11 rfl rfl ?_
    refine av_icmp_ge (tgt := 140) K d_M_findPrimes_12 rfl (fun hc => ?_) (fun hc => ?_)
    · rw [if_pos hc] at h
      refine av_aload_n K d_M_findPrimes_140 rfl rfl ?_
      refine av_iconst (v := (0 : Int32)) K d_M_findPrimes_141 (by decide) ?_
      obtain ⟨w1, ew1, h⟩ := hp_bd h
      refine hv_pi K fp_M_113 d_M_findPrimes_142 ew1 ?_
      refine av_iconst (v := (0 : Int32)) K d_M_findPrimes_145 (by decide) ?_
      refine av_istore_n (L' := [some (.ref v0), some (.int v1), some (.int (0 : Int32)), none, none, none, none, none]) K d_M_findPrimes_146 rfl (Nat.le_of_ble_eq_true rfl) rfl ?_
      exact v_M_findPrimes_147 K G hr fu fu (v0) (v1) ((0 : Int32)) _ h
    · rw [if_neg hc] at h
      refine av_aload_n K d_M_findPrimes_15 rfl rfl ?_
      refine av_iload_n K d_M_findPrimes_16 rfl rfl ?_
      obtain ⟨_, eo17, h⟩ := hp_bd h
      obtain ⟨r2, er2, h⟩ := hp_bd h
      obtain ⟨fs17, ho17⟩ := hp_is_of eo17
      refine av_cVi K G (c_M_settingOf (tab := tabON) er2) (cwV 1 K.2.2.2.2.1 (gV ml_M_123 im_M_settingOf se_M_settingOf in_M co_M_settingOf) rfl rfl rfl cd_M_settingOf ⟨Nat.le_of_ble_eq_true rfl, Nat.le_of_ble_eq_true rfl⟩) rfl ho17 rfl rfl (Nat.le_of_ble_eq_true rfl) d_M_findPrimes_17 ⟨Nat.zero_le _, Nat.zero_le _⟩ (fun a9 u9 h9 => ?_)
      obtain ⟨rfl, rfl⟩ : a9 = r2.1 ∧ u9 = r2.2 := ⟨congrArg Prod.fst h9, congrArg Prod.snd h9⟩
      refine av_istore_n (L' := [some (.ref v0), some (.int v1), some (.int v2), some (.int r2.1), none, none, none, none]) K d_M_findPrimes_20 rfl (Nat.le_of_ble_eq_true rfl) rfl ?_
      refine av_iload_n K d_M_findPrimes_21 rfl rfl ?_
      refine av_if_lt (tgt := 29) K d_M_findPrimes_22 rfl (fun hc => ?_) (fun hc => ?_)
      · rw [if_pos hc] at h
        refine av_iconst (v := (-1 : Int32)) K d_M_findPrimes_29 (by decide) ?_
        refine av_iload_n K d_M_findPrimes_30 rfl rfl ?_
        refine av_isub K d_M_findPrimes_31 ?_
        obtain ⟨r3, er3, h⟩ := hp_bd h
        refine av_cSi K G (c_M_power (tab := tabON) er3) (cwS 1 K.2.2.2.2.1 (gS ml_M_120 sm_M_power in_M co_M_power) rfl rfl rfl cd_M_power ⟨Nat.le_of_ble_eq_true rfl, Nat.le_of_ble_eq_true rfl⟩) rfl rfl (Nat.le_of_ble_eq_true rfl) d_M_findPrimes_32 ⟨Nat.zero_le _, Nat.zero_le _⟩ (fun a9 u9 h9 => ?_)
        obtain ⟨rfl, rfl⟩ : a9 = r3.1 ∧ u9 = r3.2 := ⟨congrArg Prod.fst h9, congrArg Prod.snd h9⟩
        exact v_M_findPrimes_35 K G hr fu (f_M_findPrimes_10 fu n) ih (v0) (v1) (v2) (r2.1) (r3.1) _ h
      · rw [if_neg hc] at h
        refine av_iconst (v := (0 : Int32)) K d_M_findPrimes_25 (by decide) ?_
        refine av_goto (tgt := 35) K d_M_findPrimes_26 rfl ?_
        exact v_M_findPrimes_35 K G hr fu (f_M_findPrimes_10 fu n) ih (v0) (v1) (v2) (r2.1) ((0 : Int32)) _ h
set_option maxRecDepth 100000 in
set_option maxHeartbeats 4000000 in
theorem v_M_findPrimes (K : av_K p s m args meth c D cl8 ca A b_M_findPrimes 8 R_M WS) (G : av_G NS tabON A s s.heap) (hr : meth.sig.returnType = some .boolean) (fu : Nat) {r : Int32 × List va_E} (v0 : Nat) (w : List va_E) (h : f_M_findPrimes fu v0 w = some r) : av_VI p l e rm_M_findPrimes s m args below meth c D cl8 A ad ca 8 r 0 [some (.ref v0), none, none, none, none, none, none, none] [] w := by
  unfold f_M_findPrimes at h
  refine av_aload_n K d_M_findPrimes_0 rfl rfl ?_
  obtain ⟨x1, ex1, h⟩ := hp_bd h
  refine hv_gi K fl_M_61 d_M_findPrimes_1 ex1 ?_
  obtain ⟨r2, er2, h⟩ := hp_bd h
  refine av_cSi K G (c_M_power (tab := tabON) er2) (cwS 1 K.2.2.2.2.1 (gS ml_M_120 sm_M_power in_M co_M_power) rfl rfl rfl cd_M_power ⟨Nat.le_of_ble_eq_true rfl, Nat.le_of_ble_eq_true rfl⟩) rfl rfl (Nat.le_of_ble_eq_true rfl) d_M_findPrimes_4 ⟨Nat.zero_le _, Nat.zero_le _⟩ (fun a9 u9 h9 => ?_)
  obtain ⟨rfl, rfl⟩ : a9 = r2.1 ∧ u9 = r2.2 := ⟨congrArg Prod.fst h9, congrArg Prod.snd h9⟩
  refine av_istore_n (L' := [some (.ref v0), some (.int r2.1), none, none, none, none, none, none]) K d_M_findPrimes_7 rfl (Nat.le_of_ble_eq_true rfl) rfl ?_
  refine av_iconst (v := (0 : Int32)) K d_M_findPrimes_8 (by decide) ?_
  refine av_istore_n (L' := [some (.ref v0), some (.int r2.1), some (.int (0 : Int32)), none, none, none, none, none]) K d_M_findPrimes_9 rfl (Nat.le_of_ble_eq_true rfl) rfl ?_
  exact v_M_findPrimes_10 K G hr fu fu (v0) (r2.1) ((0 : Int32)) _ h
end
set_option maxRecDepth 100000 in
theorem c_M_findPrimes {l : Launch} {D : va_G} {ca : Nat → Nat} {tab : Nat → Int64} {fu : Nat} {v0 : Nat} {w : List va_E} {r : Int32 × List va_E} (h : f_M_findPrimes fu v0 w = some r) : av_Ci l D cl8 ca NS tabON y_M_findPrimes w_M_findPrimes rm_M_findPrimes [.ref v0] w (fun v u => (v, u) = r) :=
  av_inI (cc := b_M_findPrimes) (nL := 8) (by decide +kernel) rfl (Nat.le_of_ble_eq_true rfl) (fun p e s m args below meth c A ad K G hr => v_M_findPrimes K G hr fu v0 w h)

-- FaultTreeDeskModel.fails(I)Z
theorem d_M_fails_0 : decode b_M_fails 0 = .ok (.aload_n 0, 1) := by decide +kernel
theorem d_M_fails_1 : decode b_M_fails 1 = .ok (.iload_n 1, 1) := by decide +kernel
theorem d_M_fails_2 : decode b_M_fails 2 = .ok (.invokevirtual 90, 3) := by decide +kernel
theorem d_M_fails_5 : decode b_M_fails 5 = .ok (.ifCond .eq 5, 3) := by decide +kernel
theorem d_M_fails_8 : decode b_M_fails 8 = .ok (.iconst 1, 1) := by decide +kernel
theorem d_M_fails_9 : decode b_M_fails 9 = .ok (.ireturn, 1) := by decide +kernel
theorem d_M_fails_10 : decode b_M_fails 10 = .ok (.aload_n 0, 1) := by decide +kernel
theorem d_M_fails_11 : decode b_M_fails 11 = .ok (.aload_n 0, 1) := by decide +kernel
theorem d_M_fails_12 : decode b_M_fails 12 = .ok (.invokevirtual 139, 3) := by decide +kernel
theorem d_M_fails_15 : decode b_M_fails 15 = .ok (.ifCond .eq 7, 3) := by decide +kernel
theorem d_M_fails_18 : decode b_M_fails 18 = .ok (.iconst 0, 1) := by decide +kernel
theorem d_M_fails_19 : decode b_M_fails 19 = .ok (.goto 6, 3) := by decide +kernel
theorem d_M_fails_22 : decode b_M_fails 22 = .ok (.iload_n 1, 1) := by decide +kernel
theorem d_M_fails_23 : decode b_M_fails 23 = .ok (.iconst 1, 1) := by decide +kernel
theorem d_M_fails_24 : decode b_M_fails 24 = .ok (.iadd, 1) := by decide +kernel
theorem d_M_fails_25 : decode b_M_fails 25 = .ok (.putfield 58, 3) := by decide +kernel
theorem d_M_fails_28 : decode b_M_fails 28 = .ok (.aload_n 0, 1) := by decide +kernel
theorem d_M_fails_29 : decode b_M_fails 29 = .ok (.getfield 58, 3) := by decide +kernel
theorem d_M_fails_32 : decode b_M_fails 32 = .ok (.ifCond .le 7, 3) := by decide +kernel
theorem d_M_fails_35 : decode b_M_fails 35 = .ok (.iconst 1, 1) := by decide +kernel
theorem d_M_fails_36 : decode b_M_fails 36 = .ok (.goto 4, 3) := by decide +kernel
theorem d_M_fails_39 : decode b_M_fails 39 = .ok (.iconst 0, 1) := by decide +kernel
theorem d_M_fails_40 : decode b_M_fails 40 = .ok (.ireturn, 1) := by decide +kernel
def rm_M_fails : Room := { frames := 4, cells := 0, slots := 0, locals := 96 }
def f_M_fails_40 (fu : Nat) (s0 : Int32) (w : List va_E) : Option (Int32 × List va_E) := (if s0 = 0 ∨ s0 = 1 then some (s0, w) else none)
def f_M_fails_25 (fu : Nat) (v0 : Nat) (s0 : Nat) (s1 : Int32) (w : List va_E) : Option (Int32 × List va_E) := ((hp_pi w s0 7 0 s1).bind fun w1 => ((hp_gi w1 v0 7 0).bind fun x2 => (if x2 ≤ 0 then (f_M_fails_40 fu ((0 : Int32)) w1) else (f_M_fails_40 fu ((1 : Int32)) w1))))
def f_M_fails (fu : Nat) (v0 : Nat) (v1 : Int32) (w : List va_E) : Option (Int32 × List va_E) := ((hp_is w v0 7).bind fun _ => ((f_M_lacks fu v0 v1 w).bind fun r1 => (if r1.1 = 0 then ((hp_is r1.2 v0 7).bind fun _ => ((f_M_findPrimes fu v0 r1.2).bind fun r2 => (if r2.1 = 0 then (f_M_fails_25 fu (v0) (v0) ((v1 + (1 : Int32))) r2.2) else (f_M_fails_25 fu (v0) (v0) ((0 : Int32)) r2.2)))) else (if (1 : Int32) = 0 ∨ (1 : Int32) = 1 then some ((1 : Int32), r1.2) else none))))
section
variable {p : Program} {l : Launch} {e : Env} {s : State} {m : MethodId} {args : Array Value} {below : List Frame} {meth : Method} {c : Code} {D : va_G} {ca : Nat → Nat} {A : Nat → Prop} {ad : Nat → Nat}
set_option maxRecDepth 100000 in
set_option maxHeartbeats 4000000 in
theorem v_M_fails_40 (K : av_K p s m args meth c D cl8 ca A b_M_fails 2 R_M WS) (G : av_G NS tabON A s s.heap) (hr : meth.sig.returnType = some .boolean) (fu : Nat) {r : Int32 × List va_E} (s0 : Int32) (w : List va_E) (h : f_M_fails_40 fu s0 w = some r) : av_VI p l e rm_M_fails s m args below meth c D cl8 A ad ca 2 r 40 [none, none] [.int s0] w := by
  unfold f_M_fails_40 at h
  obtain ⟨hz, h⟩ := hp_if h
  obtain rfl := Option.some.inj h
  exact av_zreturn K hr (hp_nz hz) d_M_fails_40 rfl
set_option maxRecDepth 100000 in
set_option maxHeartbeats 4000000 in
theorem v_M_fails_25 (K : av_K p s m args meth c D cl8 ca A b_M_fails 2 R_M WS) (G : av_G NS tabON A s s.heap) (hr : meth.sig.returnType = some .boolean) (fu : Nat) {r : Int32 × List va_E} (v0 : Nat) (s0 : Nat) (s1 : Int32) (w : List va_E) (h : f_M_fails_25 fu v0 s0 s1 w = some r) : av_VI p l e rm_M_fails s m args below meth c D cl8 A ad ca 2 r 25 [some (.ref v0), none] [.int s1, .ref s0] w := by
  unfold f_M_fails_25 at h
  obtain ⟨w1, ew1, h⟩ := hp_bd h
  refine hv_pi K fp_M_58 d_M_fails_25 ew1 ?_
  refine av_aload_n K d_M_fails_28 rfl rfl ?_
  obtain ⟨x2, ex2, h⟩ := hp_bd h
  refine hv_gi K fl_M_58 d_M_fails_29 ex2 ?_
  refine av_if_le (tgt := 39) K d_M_fails_32 rfl (fun hc => ?_) (fun hc => ?_)
  · rw [if_pos hc] at h
    refine av_iconst (v := (0 : Int32)) K d_M_fails_39 (by decide) ?_
    refine hv_fg (L' := [none, none]) [0] rfl ?_
    exact v_M_fails_40 K G hr fu ((0 : Int32)) _ h
  · rw [if_neg hc] at h
    refine av_iconst (v := (1 : Int32)) K d_M_fails_35 (by decide) ?_
    refine av_goto (tgt := 40) K d_M_fails_36 rfl ?_
    refine hv_fg (L' := [none, none]) [0] rfl ?_
    exact v_M_fails_40 K G hr fu ((1 : Int32)) _ h
set_option maxRecDepth 100000 in
set_option maxHeartbeats 4000000 in
theorem v_M_fails (K : av_K p s m args meth c D cl8 ca A b_M_fails 2 R_M WS) (G : av_G NS tabON A s s.heap) (hr : meth.sig.returnType = some .boolean) (fu : Nat) {r : Int32 × List va_E} (v0 : Nat) (v1 : Int32) (w : List va_E) (h : f_M_fails fu v0 v1 w = some r) : av_VI p l e rm_M_fails s m args below meth c D cl8 A ad ca 2 r 0 [some (.ref v0), some (.int v1)] [] w := by
  unfold f_M_fails at h
  refine av_aload_n K d_M_fails_0 rfl rfl ?_
  refine av_iload_n K d_M_fails_1 rfl rfl ?_
  obtain ⟨_, eo2, h⟩ := hp_bd h
  obtain ⟨r1, er1, h⟩ := hp_bd h
  obtain ⟨fs2, ho2⟩ := hp_is_of eo2
  refine av_cVi K G (c_M_lacks (tab := tabON) er1) (cwV 1 K.2.2.2.2.1 (gV ml_M_90 im_M_lacks se_M_lacks in_M co_M_lacks) rfl rfl rfl cd_M_lacks ⟨Nat.le_of_ble_eq_true rfl, Nat.le_of_ble_eq_true rfl⟩) rfl ho2 rfl rfl (Nat.le_of_ble_eq_true rfl) d_M_fails_2 ⟨Nat.zero_le _, Nat.zero_le _⟩ (fun a9 u9 h9 => ?_)
  obtain ⟨rfl, rfl⟩ : a9 = r1.1 ∧ u9 = r1.2 := ⟨congrArg Prod.fst h9, congrArg Prod.snd h9⟩
  refine av_if_eq (tgt := 10) K d_M_fails_5 rfl (fun hc => ?_) (fun hc => ?_)
  · rw [if_pos hc] at h
    refine av_aload_n K d_M_fails_10 rfl rfl ?_
    refine av_aload_n K d_M_fails_11 rfl rfl ?_
    obtain ⟨_, eo12, h⟩ := hp_bd h
    obtain ⟨r2, er2, h⟩ := hp_bd h
    obtain ⟨fs12, ho12⟩ := hp_is_of eo12
    refine av_cVi K G (c_M_findPrimes (tab := tabON) er2) (cwV 0 K.2.2.2.2.1 (gV ml_M_139 im_M_findPrimes se_M_findPrimes in_M co_M_findPrimes) rfl rfl rfl cd_M_findPrimes ⟨Nat.le_of_ble_eq_true rfl, Nat.le_of_ble_eq_true rfl⟩) rfl ho12 rfl rfl (Nat.le_of_ble_eq_true rfl) d_M_fails_12 ⟨Nat.zero_le _, Nat.zero_le _⟩ (fun a9 u9 h9 => ?_)
    obtain ⟨rfl, rfl⟩ : a9 = r2.1 ∧ u9 = r2.2 := ⟨congrArg Prod.fst h9, congrArg Prod.snd h9⟩
    refine av_if_eq (tgt := 22) K d_M_fails_15 rfl (fun hc => ?_) (fun hc => ?_)
    · rw [if_pos hc] at h
      refine av_iload_n K d_M_fails_22 rfl rfl ?_
      refine av_iconst (v := (1 : Int32)) K d_M_fails_23 (by decide) ?_
      refine av_iadd K d_M_fails_24 ?_
      refine hv_fg (L' := [some (.ref v0), none]) [1] rfl ?_
      exact v_M_fails_25 K G hr fu (v0) (v0) ((v1 + (1 : Int32))) _ h
    · rw [if_neg hc] at h
      refine av_iconst (v := (0 : Int32)) K d_M_fails_18 (by decide) ?_
      refine av_goto (tgt := 25) K d_M_fails_19 rfl ?_
      refine hv_fg (L' := [some (.ref v0), none]) [1] rfl ?_
      exact v_M_fails_25 K G hr fu (v0) (v0) ((0 : Int32)) _ h
  · rw [if_neg hc] at h
    refine av_iconst (v := (1 : Int32)) K d_M_fails_8 (by decide) ?_
    obtain ⟨hz, h⟩ := hp_if h
    obtain rfl := Option.some.inj h
    exact av_zreturn K hr (hp_nz hz) d_M_fails_9 rfl
end
set_option maxRecDepth 100000 in
theorem c_M_fails {l : Launch} {D : va_G} {ca : Nat → Nat} {tab : Nat → Int64} {fu : Nat} {v0 : Nat} {v1 : Int32} {w : List va_E} {r : Int32 × List va_E} (h : f_M_fails fu v0 v1 w = some r) : av_Ci l D cl8 ca NS tabON y_M_fails w_M_fails rm_M_fails [.ref v0, .int v1] w (fun v u => (v, u) = r) :=
  av_inI (cc := b_M_fails) (nL := 2) (by decide +kernel) rfl (Nat.le_of_ble_eq_true rfl) (fun p e s m args below meth c A ad K G hr => v_M_fails K G hr fu v0 v1 w h)

-- FaultTreeDeskModel.primes(I)I
theorem d_M_primes_0 : decode b_M_primes 0 = .ok (.aload_n 0, 1) := by decide +kernel
theorem d_M_primes_1 : decode b_M_primes 1 = .ok (.iload_n 1, 1) := by decide +kernel
theorem d_M_primes_2 : decode b_M_primes 2 = .ok (.ifCond .lt 9, 3) := by decide +kernel
theorem d_M_primes_5 : decode b_M_primes 5 = .ok (.iload_n 1, 1) := by decide +kernel
theorem d_M_primes_6 : decode b_M_primes 6 = .ok (.bipush 10, 2) := by decide +kernel
theorem d_M_primes_8 : decode b_M_primes 8 = .ok (.if_icmp .le 7, 3) := by decide +kernel
theorem d_M_primes_11 : decode b_M_primes 11 = .ok (.iconst 1, 1) := by decide +kernel
theorem d_M_primes_12 : decode b_M_primes 12 = .ok (.goto 4, 3) := by decide +kernel
theorem d_M_primes_15 : decode b_M_primes 15 = .ok (.iconst 0, 1) := by decide +kernel
theorem d_M_primes_16 : decode b_M_primes 16 = .ok (.putfield 58, 3) := by decide +kernel
theorem d_M_primes_19 : decode b_M_primes 19 = .ok (.aload_n 0, 1) := by decide +kernel
theorem d_M_primes_20 : decode b_M_primes 20 = .ok (.getfield 58, 3) := by decide +kernel
theorem d_M_primes_23 : decode b_M_primes 23 = .ok (.ifCond .gt 11, 3) := by decide +kernel
theorem d_M_primes_26 : decode b_M_primes 26 = .ok (.aload_n 0, 1) := by decide +kernel
theorem d_M_primes_27 : decode b_M_primes 27 = .ok (.iconst 2, 1) := by decide +kernel
theorem d_M_primes_28 : decode b_M_primes 28 = .ok (.invokevirtual 143, 3) := by decide +kernel
theorem d_M_primes_31 : decode b_M_primes 31 = .ok (.ifCond .eq 5, 3) := by decide +kernel
theorem d_M_primes_34 : decode b_M_primes 34 = .ok (.iconst 0, 1) := by decide +kernel
theorem d_M_primes_35 : decode b_M_primes 35 = .ok (.ireturn, 1) := by decide +kernel
theorem d_M_primes_36 : decode b_M_primes 36 = .ok (.iconst 0, 1) := by decide +kernel
theorem d_M_primes_37 : decode b_M_primes 37 = .ok (.istore_n 2, 1) := by decide +kernel
theorem d_M_primes_38 : decode b_M_primes 38 = .ok (.iconst 0, 1) := by decide +kernel
theorem d_M_primes_39 : decode b_M_primes 39 = .ok (.istore_n 3, 1) := by decide +kernel
theorem d_M_primes_40 : decode b_M_primes 40 = .ok (.iload_n 3, 1) := by decide +kernel
theorem d_M_primes_41 : decode b_M_primes 41 = .ok (.aload_n 0, 1) := by decide +kernel
theorem d_M_primes_42 : decode b_M_primes 42 = .ok (.getfield 113, 3) := by decide +kernel
theorem d_M_primes_45 : decode b_M_primes 45 = .ok (.if_icmp .ge 40, 3) := by decide +kernel
theorem d_M_primes_48 : decode b_M_primes 48 = .ok (.iload_n 2, 1) := by decide +kernel
theorem d_M_primes_49 : decode b_M_primes 49 = .ok (.aload_n 0, 1) := by decide +kernel
theorem d_M_primes_50 : decode b_M_primes 50 = .ok (.getfield 52, 3) := by decide +kernel
theorem d_M_primes_53 : decode b_M_primes 53 = .ok (.iload_n 3, 1) := by decide +kernel
theorem d_M_primes_54 : decode b_M_primes 54 = .ok (.iaload, 1) := by decide +kernel
theorem d_M_primes_55 : decode b_M_primes 55 = .ok (.invokestatic 109, 3) := by decide +kernel
theorem d_M_primes_58 : decode b_M_primes 58 = .ok (.aload_n 0, 1) := by decide +kernel
theorem d_M_primes_59 : decode b_M_primes 59 = .ok (.getfield 55, 3) := by decide +kernel
theorem d_M_primes_62 : decode b_M_primes 62 = .ok (.iload_n 3, 1) := by decide +kernel
theorem d_M_primes_63 : decode b_M_primes 63 = .ok (.iaload, 1) := by decide +kernel
theorem d_M_primes_64 : decode b_M_primes 64 = .ok (.invokestatic 109, 3) := by decide +kernel
theorem d_M_primes_67 : decode b_M_primes 67 = .ok (.iadd, 1) := by decide +kernel
theorem d_M_primes_68 : decode b_M_primes 68 = .ok (.iload_n 1, 1) := by decide +kernel
theorem d_M_primes_69 : decode b_M_primes 69 = .ok (.if_icmp .gt 7, 3) := by decide +kernel
theorem d_M_primes_72 : decode b_M_primes 72 = .ok (.iconst 1, 1) := by decide +kernel
theorem d_M_primes_73 : decode b_M_primes 73 = .ok (.goto 4, 3) := by decide +kernel
theorem d_M_primes_76 : decode b_M_primes 76 = .ok (.iconst 0, 1) := by decide +kernel
theorem d_M_primes_77 : decode b_M_primes 77 = .ok (.iadd, 1) := by decide +kernel
theorem d_M_primes_78 : decode b_M_primes 78 = .ok (.istore_n 2, 1) := by decide +kernel
theorem d_M_primes_79 : decode b_M_primes 79 = .ok (.iinc 3 1, 3) := by decide +kernel
theorem d_M_primes_82 : decode b_M_primes 82 = .ok (.goto (-42), 3) := by decide +kernel
theorem d_M_primes_85 : decode b_M_primes 85 = .ok (.iload_n 2, 1) := by decide +kernel
theorem d_M_primes_86 : decode b_M_primes 86 = .ok (.ireturn, 1) := by decide +kernel
def rm_M_primes : Room := { frames := 5, cells := 0, slots := 0, locals := 117 }
def f_M_primes_77 (fu : Nat) (k40 : Nat → Int32 → Int32 → Int32 → List va_E → Option (Int32 × List va_E)) (v0 : Nat) (v1 : Int32) (v3 : Int32) (s0 : Int32) (s1 : Int32) (w : List va_E) : Option (Int32 × List va_E) := (k40 (v0) (v1) ((s0 + s1)) ((v3 + (1 : Int32))) w)
def f_M_primes_40 (fu : Nat) : Nat → Nat → Int32 → Int32 → Int32 → List va_E → Option (Int32 × List va_E)
  | 0, _, _, _, _, _ => none
  | n + 1, v0, v1, v2, v3, w => ((hp_gi w v0 7 16).bind fun x1 => (if x1 ≤ v3 then (some (v2, w)) else ((hp_gr w v0 7 17).bind fun q2 => ((hp_ri w q2 v3).bind fun x3 => ((f_M_size fu x3 w).bind fun r4 => ((hp_gr r4.2 v0 7 18).bind fun q5 => ((hp_ri r4.2 q5 v3).bind fun x6 => ((f_M_size fu x6 r4.2).bind fun r7 => (if v1 < (r4.1 + r7.1) then (f_M_primes_77 fu (f_M_primes_40 fu n) (v0) (v1) (v3) (v2) ((0 : Int32)) r7.2) else (f_M_primes_77 fu (f_M_primes_40 fu n) (v0) (v1) (v3) (v2) ((1 : Int32)) r7.2))))))))))
def f_M_primes_34 (fu : Nat) (w : List va_E) : Option (Int32 × List va_E) := (some ((0 : Int32), w))
def f_M_primes_16 (fu : Nat) (v0 : Nat) (v1 : Int32) (s0 : Nat) (s1 : Int32) (w : List va_E) : Option (Int32 × List va_E) := ((hp_pi w s0 7 0 s1).bind fun w1 => ((hp_gi w1 v0 7 0).bind fun x2 => (if 0 < x2 then (f_M_primes_34 fu w1) else ((hp_is w1 v0 7).bind fun _ => ((f_M_fails fu v0 (2 : Int32) w1).bind fun r3 => (if r3.1 = 0 then (f_M_primes_40 fu fu (v0) (v1) ((0 : Int32)) ((0 : Int32)) r3.2) else (f_M_primes_34 fu r3.2)))))))
def f_M_primes_11 (fu : Nat) (v0 : Nat) (v1 : Int32) (s0 : Nat) (w : List va_E) : Option (Int32 × List va_E) := (f_M_primes_16 fu (v0) (v1) (s0) ((1 : Int32)) w)
def f_M_primes (fu : Nat) (v0 : Nat) (v1 : Int32) (w : List va_E) : Option (Int32 × List va_E) := (if v1 < 0 then (f_M_primes_11 fu (v0) (v1) (v0) w) else (if v1 ≤ (10 : Int32) then (f_M_primes_16 fu (v0) (v1) (v0) ((0 : Int32)) w) else (f_M_primes_11 fu (v0) (v1) (v0) w)))
section
variable {p : Program} {l : Launch} {e : Env} {s : State} {m : MethodId} {args : Array Value} {below : List Frame} {meth : Method} {c : Code} {D : va_G} {ca : Nat → Nat} {A : Nat → Prop} {ad : Nat → Nat}
set_option maxRecDepth 100000 in
set_option maxHeartbeats 4000000 in
theorem v_M_primes_77 (K : av_K p s m args meth c D cl8 ca A b_M_primes 4 R_M WS) (G : av_G NS tabON A s s.heap) (hr : meth.sig.returnType = some .int) (fu : Nat) {r : Int32 × List va_E} (k40 : Nat → Int32 → Int32 → Int32 → List va_E → Option (Int32 × List va_E)) (hk40 : ∀ (v0 : Nat) (v1 : Int32) (v2 : Int32) (v3 : Int32) (w : List va_E), k40 v0 v1 v2 v3 w = some r → av_VI p l e rm_M_primes s m args below meth c D cl8 A ad ca 4 r 40 [some (.ref v0), some (.int v1), some (.int v2), some (.int v3)] [] w) (v0 : Nat) (v1 : Int32) (v3 : Int32) (s0 : Int32) (s1 : Int32) (w : List va_E) (h : f_M_primes_77 fu k40 v0 v1 v3 s0 s1 w = some r) : av_VI p l e rm_M_primes s m args below meth c D cl8 A ad ca 4 r 77 [some (.ref v0), some (.int v1), none, some (.int v3)] [.int s1, .int s0] w := by
  unfold f_M_primes_77 at h
  refine av_iadd K d_M_primes_77 ?_
  refine av_istore_n (L' := [some (.ref v0), some (.int v1), some (.int (s0 + s1)), some (.int v3)]) K d_M_primes_78 rfl (Nat.le_of_ble_eq_true rfl) rfl ?_
  refine av_iinc (v := (v3 + (1 : Int32))) (L' := [some (.ref v0), some (.int v1), some (.int (s0 + s1)), some (.int (v3 + (1 : Int32)))]) K d_M_primes_79 rfl (congrArg (fun z => v3 + z) (show Int32.ofInt 1 = (1 : Int32) by decide)) (Nat.le_of_ble_eq_true rfl) rfl ?_
  refine av_goto (tgt := 40) K d_M_primes_82 rfl ?_
  exact hk40 (v0) (v1) ((s0 + s1)) ((v3 + (1 : Int32))) _ h
set_option maxRecDepth 100000 in
set_option maxHeartbeats 4000000 in
theorem v_M_primes_40 (K : av_K p s m args meth c D cl8 ca A b_M_primes 4 R_M WS) (G : av_G NS tabON A s s.heap) (hr : meth.sig.returnType = some .int) (fu : Nat) {r : Int32 × List va_E} : ∀ (n : Nat) (v0 : Nat) (v1 : Int32) (v2 : Int32) (v3 : Int32) (w : List va_E), f_M_primes_40 fu n v0 v1 v2 v3 w = some r → av_VI p l e rm_M_primes s m args below meth c D cl8 A ad ca 4 r 40 [some (.ref v0), some (.int v1), some (.int v2), some (.int v3)] [] w := by
  intro n
  induction n with
  | zero => intro _ _ _ _ _ h; cases h
  | succ n ih =>
    intro v0 v1 v2 v3 w h
    unfold f_M_primes_40 at h
    refine av_iload_n K d_M_primes_40 rfl rfl ?_
    refine av_aload_n K d_M_primes_41 rfl rfl ?_
    obtain ⟨x1, ex1, h⟩ := hp_bd h
    refine hv_gi K fl_M_113 d_M_primes_42 ex1 ?_
    refine av_icmp_ge (tgt := 85) K d_M_primes_45 rfl (fun hc => ?_) (fun hc => ?_)
    · rw [if_pos hc] at h
      refine av_iload_n K d_M_primes_85 rfl rfl ?_
      obtain rfl := Option.some.inj h
      exact av_ireturn K hr d_M_primes_86 rfl
    · rw [if_neg hc] at h
      refine av_iload_n K d_M_primes_48 rfl rfl ?_
      refine av_aload_n K d_M_primes_49 rfl rfl ?_
      obtain ⟨q2, eq2, h⟩ := hp_bd h
      refine hv_gr K fl_M_52 d_M_primes_50 eq2 ?_
      refine av_iload_n K d_M_primes_53 rfl rfl ?_
      obtain ⟨x3, ex3, h⟩ := hp_bd h
      refine hv_ri K d_M_primes_54 ex3 ?_
      obtain ⟨r4, er4, h⟩ := hp_bd h
      refine av_cSi K G (c_M_size (tab := tabON) er4) (cwS 1 K.2.2.2.2.1 (gS ml_M_109 sm_M_size in_M co_M_size) rfl rfl rfl cd_M_size ⟨Nat.le_of_ble_eq_true rfl, Nat.le_of_ble_eq_true rfl⟩) rfl rfl (Nat.le_of_ble_eq_true rfl) d_M_primes_55 ⟨Nat.zero_le _, Nat.zero_le _⟩ (fun a9 u9 h9 => ?_)
      obtain ⟨rfl, rfl⟩ : a9 = r4.1 ∧ u9 = r4.2 := ⟨congrArg Prod.fst h9, congrArg Prod.snd h9⟩
      refine av_aload_n K d_M_primes_58 rfl rfl ?_
      obtain ⟨q5, eq5, h⟩ := hp_bd h
      refine hv_gr K fl_M_55 d_M_primes_59 eq5 ?_
      refine av_iload_n K d_M_primes_62 rfl rfl ?_
      obtain ⟨x6, ex6, h⟩ := hp_bd h
      refine hv_ri K d_M_primes_63 ex6 ?_
      obtain ⟨r7, er7, h⟩ := hp_bd h
      refine av_cSi K G (c_M_size (tab := tabON) er7) (cwS 1 K.2.2.2.2.1 (gS ml_M_109 sm_M_size in_M co_M_size) rfl rfl rfl cd_M_size ⟨Nat.le_of_ble_eq_true rfl, Nat.le_of_ble_eq_true rfl⟩) rfl rfl (Nat.le_of_ble_eq_true rfl) d_M_primes_64 ⟨Nat.zero_le _, Nat.zero_le _⟩ (fun a9 u9 h9 => ?_)
      obtain ⟨rfl, rfl⟩ : a9 = r7.1 ∧ u9 = r7.2 := ⟨congrArg Prod.fst h9, congrArg Prod.snd h9⟩
      refine av_iadd K d_M_primes_67 ?_
      refine av_iload_n K d_M_primes_68 rfl rfl ?_
      refine av_icmp_gt (tgt := 76) K d_M_primes_69 rfl (fun hc => ?_) (fun hc => ?_)
      · rw [if_pos hc] at h
        refine av_iconst (v := (0 : Int32)) K d_M_primes_76 (by decide) ?_
        refine hv_fg (L' := [some (.ref v0), some (.int v1), none, some (.int v3)]) [2] rfl ?_
        exact v_M_primes_77 K G hr fu (f_M_primes_40 fu n) ih (v0) (v1) (v3) (v2) ((0 : Int32)) _ h
      · rw [if_neg hc] at h
        refine av_iconst (v := (1 : Int32)) K d_M_primes_72 (by decide) ?_
        refine av_goto (tgt := 77) K d_M_primes_73 rfl ?_
        refine hv_fg (L' := [some (.ref v0), some (.int v1), none, some (.int v3)]) [2] rfl ?_
        exact v_M_primes_77 K G hr fu (f_M_primes_40 fu n) ih (v0) (v1) (v3) (v2) ((1 : Int32)) _ h
set_option maxRecDepth 100000 in
set_option maxHeartbeats 4000000 in
theorem v_M_primes_34 (K : av_K p s m args meth c D cl8 ca A b_M_primes 4 R_M WS) (G : av_G NS tabON A s s.heap) (hr : meth.sig.returnType = some .int) (fu : Nat) {r : Int32 × List va_E} (w : List va_E) (h : f_M_primes_34 fu w = some r) : av_VI p l e rm_M_primes s m args below meth c D cl8 A ad ca 4 r 34 [none, none, none, none] [] w := by
  unfold f_M_primes_34 at h
  refine av_iconst (v := (0 : Int32)) K d_M_primes_34 (by decide) ?_
  obtain rfl := Option.some.inj h
  exact av_ireturn K hr d_M_primes_35 rfl
set_option maxRecDepth 100000 in
set_option maxHeartbeats 4000000 in
theorem v_M_primes_16 (K : av_K p s m args meth c D cl8 ca A b_M_primes 4 R_M WS) (G : av_G NS tabON A s s.heap) (hr : meth.sig.returnType = some .int) (fu : Nat) {r : Int32 × List va_E} (v0 : Nat) (v1 : Int32) (s0 : Nat) (s1 : Int32) (w : List va_E) (h : f_M_primes_16 fu v0 v1 s0 s1 w = some r) : av_VI p l e rm_M_primes s m args below meth c D cl8 A ad ca 4 r 16 [some (.ref v0), some (.int v1), none, none] [.int s1, .ref s0] w := by
  unfold f_M_primes_16 at h
  obtain ⟨w1, ew1, h⟩ := hp_bd h
  refine hv_pi K fp_M_58 d_M_primes_16 ew1 ?_
  refine av_aload_n K d_M_primes_19 rfl rfl ?_
  obtain ⟨x2, ex2, h⟩ := hp_bd h
  refine hv_gi K fl_M_58 d_M_primes_20 ex2 ?_
  refine av_if_gt (tgt := 34) K d_M_primes_23 rfl (fun hc => ?_) (fun hc => ?_)
  · rw [if_pos hc] at h
    refine hv_fg (L' := [none, none, none, none]) [0, 1] rfl ?_
    exact v_M_primes_34 K G hr fu _ h
  · rw [if_neg hc] at h
    refine av_aload_n K d_M_primes_26 rfl rfl ?_
    refine av_iconst (v := (2 : Int32)) K d_M_primes_27 (by decide) ?_
    obtain ⟨_, eo28, h⟩ := hp_bd h
    obtain ⟨r3, er3, h⟩ := hp_bd h
    obtain ⟨fs28, ho28⟩ := hp_is_of eo28
    refine av_cVi K G (c_M_fails (tab := tabON) er3) (cwV 1 K.2.2.2.2.1 (gV ml_M_143 im_M_fails se_M_fails in_M co_M_fails) rfl rfl rfl cd_M_fails ⟨Nat.le_of_ble_eq_true rfl, Nat.le_of_ble_eq_true rfl⟩) rfl ho28 rfl rfl (Nat.le_of_ble_eq_true rfl) d_M_primes_28 ⟨Nat.zero_le _, Nat.zero_le _⟩ (fun a9 u9 h9 => ?_)
    obtain ⟨rfl, rfl⟩ : a9 = r3.1 ∧ u9 = r3.2 := ⟨congrArg Prod.fst h9, congrArg Prod.snd h9⟩
    refine av_if_eq (tgt := 36) K d_M_primes_31 rfl (fun hc => ?_) (fun hc => ?_)
    · rw [if_pos hc] at h
      refine av_iconst (v := (0 : Int32)) K d_M_primes_36 (by decide) ?_
      refine av_istore_n (L' := [some (.ref v0), some (.int v1), some (.int (0 : Int32)), none]) K d_M_primes_37 rfl (Nat.le_of_ble_eq_true rfl) rfl ?_
      refine av_iconst (v := (0 : Int32)) K d_M_primes_38 (by decide) ?_
      refine av_istore_n (L' := [some (.ref v0), some (.int v1), some (.int (0 : Int32)), some (.int (0 : Int32))]) K d_M_primes_39 rfl (Nat.le_of_ble_eq_true rfl) rfl ?_
      exact v_M_primes_40 K G hr fu fu (v0) (v1) ((0 : Int32)) ((0 : Int32)) _ h
    · rw [if_neg hc] at h
      refine hv_fg (L' := [none, none, none, none]) [0, 1] rfl ?_
      exact v_M_primes_34 K G hr fu _ h
set_option maxRecDepth 100000 in
set_option maxHeartbeats 4000000 in
theorem v_M_primes_11 (K : av_K p s m args meth c D cl8 ca A b_M_primes 4 R_M WS) (G : av_G NS tabON A s s.heap) (hr : meth.sig.returnType = some .int) (fu : Nat) {r : Int32 × List va_E} (v0 : Nat) (v1 : Int32) (s0 : Nat) (w : List va_E) (h : f_M_primes_11 fu v0 v1 s0 w = some r) : av_VI p l e rm_M_primes s m args below meth c D cl8 A ad ca 4 r 11 [some (.ref v0), some (.int v1), none, none] [.ref s0] w := by
  unfold f_M_primes_11 at h
  refine av_iconst (v := (1 : Int32)) K d_M_primes_11 (by decide) ?_
  refine av_goto (tgt := 16) K d_M_primes_12 rfl ?_
  exact v_M_primes_16 K G hr fu (v0) (v1) (s0) ((1 : Int32)) _ h
set_option maxRecDepth 100000 in
set_option maxHeartbeats 4000000 in
theorem v_M_primes (K : av_K p s m args meth c D cl8 ca A b_M_primes 4 R_M WS) (G : av_G NS tabON A s s.heap) (hr : meth.sig.returnType = some .int) (fu : Nat) {r : Int32 × List va_E} (v0 : Nat) (v1 : Int32) (w : List va_E) (h : f_M_primes fu v0 v1 w = some r) : av_VI p l e rm_M_primes s m args below meth c D cl8 A ad ca 4 r 0 [some (.ref v0), some (.int v1), none, none] [] w := by
  unfold f_M_primes at h
  refine av_aload_n K d_M_primes_0 rfl rfl ?_
  refine av_iload_n K d_M_primes_1 rfl rfl ?_
  refine av_if_lt (tgt := 11) K d_M_primes_2 rfl (fun hc => ?_) (fun hc => ?_)
  · rw [if_pos hc] at h
    exact v_M_primes_11 K G hr fu (v0) (v1) (v0) _ h
  · rw [if_neg hc] at h
    refine av_iload_n K d_M_primes_5 rfl rfl ?_
    refine av_bipush (v := (10 : Int32)) K d_M_primes_6 (by decide) ?_
    refine av_icmp_le (tgt := 15) K d_M_primes_8 rfl (fun hc => ?_) (fun hc => ?_)
    · rw [if_pos hc] at h
      refine av_iconst (v := (0 : Int32)) K d_M_primes_15 (by decide) ?_
      exact v_M_primes_16 K G hr fu (v0) (v1) (v0) ((0 : Int32)) _ h
    · rw [if_neg hc] at h
      exact v_M_primes_11 K G hr fu (v0) (v1) (v0) _ h
end
set_option maxRecDepth 100000 in
theorem c_M_primes {l : Launch} {D : va_G} {ca : Nat → Nat} {tab : Nat → Int64} {fu : Nat} {v0 : Nat} {v1 : Int32} {w : List va_E} {r : Int32 × List va_E} (h : f_M_primes fu v0 v1 w = some r) : av_Ci l D cl8 ca NS tabON y_M_primes w_M_primes rm_M_primes [.ref v0, .int v1] w (fun v u => (v, u) = r) :=
  av_inI (cc := b_M_primes) (nL := 4) (by decide +kernel) rfl (Nat.le_of_ble_eq_true rfl) (fun p e s m args below meth c A ad K G hr => v_M_primes K G hr fu v0 v1 w h)

-- FaultTreeDeskModel.prime(II)I
theorem d_M_prime_0 : decode b_M_prime 0 = .ok (.aload_n 0, 1) := by decide +kernel
theorem d_M_prime_1 : decode b_M_prime 1 = .ok (.iload_n 2, 1) := by decide +kernel
theorem d_M_prime_2 : decode b_M_prime 2 = .ok (.ifCond .lt 8, 3) := by decide +kernel
theorem d_M_prime_5 : decode b_M_prime 5 = .ok (.iload_n 2, 1) := by decide +kernel
theorem d_M_prime_6 : decode b_M_prime 6 = .ok (.iconst 1, 1) := by decide +kernel
theorem d_M_prime_7 : decode b_M_prime 7 = .ok (.if_icmp .le 7, 3) := by decide +kernel
theorem d_M_prime_10 : decode b_M_prime 10 = .ok (.iconst 1, 1) := by decide +kernel
theorem d_M_prime_11 : decode b_M_prime 11 = .ok (.goto 4, 3) := by decide +kernel
theorem d_M_prime_14 : decode b_M_prime 14 = .ok (.iconst 0, 1) := by decide +kernel
theorem d_M_prime_15 : decode b_M_prime 15 = .ok (.putfield 58, 3) := by decide +kernel
theorem d_M_prime_18 : decode b_M_prime 18 = .ok (.aload_n 0, 1) := by decide +kernel
theorem d_M_prime_19 : decode b_M_prime 19 = .ok (.getfield 58, 3) := by decide +kernel
theorem d_M_prime_22 : decode b_M_prime 22 = .ok (.ifCond .gt 11, 3) := by decide +kernel
theorem d_M_prime_25 : decode b_M_prime 25 = .ok (.aload_n 0, 1) := by decide +kernel
theorem d_M_prime_26 : decode b_M_prime 26 = .ok (.iconst 2, 1) := by decide +kernel
theorem d_M_prime_27 : decode b_M_prime 27 = .ok (.invokevirtual 143, 3) := by decide +kernel
theorem d_M_prime_30 : decode b_M_prime 30 = .ok (.ifCond .eq 5, 3) := by decide +kernel
theorem d_M_prime_33 : decode b_M_prime 33 = .ok (.iconst 0, 1) := by decide +kernel
theorem d_M_prime_34 : decode b_M_prime 34 = .ok (.ireturn, 1) := by decide +kernel
theorem d_M_prime_35 : decode b_M_prime 35 = .ok (.aload_n 0, 1) := by decide +kernel
theorem d_M_prime_36 : decode b_M_prime 36 = .ok (.iload_n 1, 1) := by decide +kernel
theorem d_M_prime_37 : decode b_M_prime 37 = .ok (.ifCond .lt 11, 3) := by decide +kernel
theorem d_M_prime_40 : decode b_M_prime 40 = .ok (.iload_n 1, 1) := by decide +kernel
theorem d_M_prime_41 : decode b_M_prime 41 = .ok (.aload_n 0, 1) := by decide +kernel
theorem d_M_prime_42 : decode b_M_prime 42 = .ok (.getfield 113, 3) := by decide +kernel
theorem d_M_prime_45 : decode b_M_prime 45 = .ok (.if_icmp .lt 7, 3) := by decide +kernel
theorem d_M_prime_48 : decode b_M_prime 48 = .ok (.iconst 4, 1) := by decide +kernel
theorem d_M_prime_49 : decode b_M_prime 49 = .ok (.goto 4, 3) := by decide +kernel
theorem d_M_prime_52 : decode b_M_prime 52 = .ok (.iconst 0, 1) := by decide +kernel
theorem d_M_prime_53 : decode b_M_prime 53 = .ok (.putfield 58, 3) := by decide +kernel
theorem d_M_prime_56 : decode b_M_prime 56 = .ok (.aload_n 0, 1) := by decide +kernel
theorem d_M_prime_57 : decode b_M_prime 57 = .ok (.getfield 58, 3) := by decide +kernel
theorem d_M_prime_60 : decode b_M_prime 60 = .ok (.ifCond .le 7, 3) := by decide +kernel
theorem d_M_prime_63 : decode b_M_prime 63 = .ok (.iconst 0, 1) := by decide +kernel
theorem d_M_prime_64 : decode b_M_prime 64 = .ok (.goto 22, 3) := by decide +kernel
theorem d_M_prime_67 : decode b_M_prime 67 = .ok (.iload_n 2, 1) := by decide +kernel
theorem d_M_prime_68 : decode b_M_prime 68 = .ok (.ifCond .ne 12, 3) := by decide +kernel
theorem d_M_prime_71 : decode b_M_prime 71 = .ok (.aload_n 0, 1) := by decide +kernel
theorem d_M_prime_72 : decode b_M_prime 72 = .ok (.getfield 52, 3) := by decide +kernel
theorem d_M_prime_75 : decode b_M_prime 75 = .ok (.iload_n 1, 1) := by decide +kernel
theorem d_M_prime_76 : decode b_M_prime 76 = .ok (.iaload, 1) := by decide +kernel
theorem d_M_prime_77 : decode b_M_prime 77 = .ok (.goto 9, 3) := by decide +kernel
theorem d_M_prime_80 : decode b_M_prime 80 = .ok (.aload_n 0, 1) := by decide +kernel
theorem d_M_prime_81 : decode b_M_prime 81 = .ok (.getfield 55, 3) := by decide +kernel
theorem d_M_prime_84 : decode b_M_prime 84 = .ok (.iload_n 1, 1) := by decide +kernel
theorem d_M_prime_85 : decode b_M_prime 85 = .ok (.iaload, 1) := by decide +kernel
theorem d_M_prime_86 : decode b_M_prime 86 = .ok (.ireturn, 1) := by decide +kernel
def rm_M_prime : Room := { frames := 5, cells := 0, slots := 0, locals := 117 }
def f_M_prime_86 (fu : Nat) (s0 : Int32) (w : List va_E) : Option (Int32 × List va_E) := (some (s0, w))
def f_M_prime_53 (fu : Nat) (v0 : Nat) (v1 : Int32) (v2 : Int32) (s0 : Nat) (s1 : Int32) (w : List va_E) : Option (Int32 × List va_E) := ((hp_pi w s0 7 0 s1).bind fun w1 => ((hp_gi w1 v0 7 0).bind fun x2 => (if x2 ≤ 0 then (if v2 = 0 then ((hp_gr w1 v0 7 17).bind fun q5 => ((hp_ri w1 q5 v1).bind fun x6 => (f_M_prime_86 fu (x6) w1))) else ((hp_gr w1 v0 7 18).bind fun q3 => ((hp_ri w1 q3 v1).bind fun x4 => (f_M_prime_86 fu (x4) w1)))) else (f_M_prime_86 fu ((0 : Int32)) w1))))
def f_M_prime_48 (fu : Nat) (v0 : Nat) (v1 : Int32) (v2 : Int32) (s0 : Nat) (w : List va_E) : Option (Int32 × List va_E) := (f_M_prime_53 fu (v0) (v1) (v2) (s0) ((4 : Int32)) w)
def f_M_prime_33 (fu : Nat) (w : List va_E) : Option (Int32 × List va_E) := (some ((0 : Int32), w))
def f_M_prime_15 (fu : Nat) (v0 : Nat) (v1 : Int32) (v2 : Int32) (s0 : Nat) (s1 : Int32) (w : List va_E) : Option (Int32 × List va_E) := ((hp_pi w s0 7 0 s1).bind fun w1 => ((hp_gi w1 v0 7 0).bind fun x2 => (if 0 < x2 then (f_M_prime_33 fu w1) else ((hp_is w1 v0 7).bind fun _ => ((f_M_fails fu v0 (2 : Int32) w1).bind fun r3 => (if r3.1 = 0 then (if v1 < 0 then (f_M_prime_48 fu (v0) (v1) (v2) (v0) r3.2) else ((hp_gi r3.2 v0 7 16).bind fun x4 => (if v1 < x4 then (f_M_prime_53 fu (v0) (v1) (v2) (v0) ((0 : Int32)) r3.2) else (f_M_prime_48 fu (v0) (v1) (v2) (v0) r3.2)))) else (f_M_prime_33 fu r3.2)))))))
def f_M_prime_10 (fu : Nat) (v0 : Nat) (v1 : Int32) (v2 : Int32) (s0 : Nat) (w : List va_E) : Option (Int32 × List va_E) := (f_M_prime_15 fu (v0) (v1) (v2) (s0) ((1 : Int32)) w)
def f_M_prime (fu : Nat) (v0 : Nat) (v1 : Int32) (v2 : Int32) (w : List va_E) : Option (Int32 × List va_E) := (if v2 < 0 then (f_M_prime_10 fu (v0) (v1) (v2) (v0) w) else (if v2 ≤ (1 : Int32) then (f_M_prime_15 fu (v0) (v1) (v2) (v0) ((0 : Int32)) w) else (f_M_prime_10 fu (v0) (v1) (v2) (v0) w)))
section
variable {p : Program} {l : Launch} {e : Env} {s : State} {m : MethodId} {args : Array Value} {below : List Frame} {meth : Method} {c : Code} {D : va_G} {ca : Nat → Nat} {A : Nat → Prop} {ad : Nat → Nat}
set_option maxRecDepth 100000 in
set_option maxHeartbeats 4000000 in
theorem v_M_prime_86 (K : av_K p s m args meth c D cl8 ca A b_M_prime 3 R_M WS) (G : av_G NS tabON A s s.heap) (hr : meth.sig.returnType = some .int) (fu : Nat) {r : Int32 × List va_E} (s0 : Int32) (w : List va_E) (h : f_M_prime_86 fu s0 w = some r) : av_VI p l e rm_M_prime s m args below meth c D cl8 A ad ca 3 r 86 [none, none, none] [.int s0] w := by
  unfold f_M_prime_86 at h
  obtain rfl := Option.some.inj h
  exact av_ireturn K hr d_M_prime_86 rfl
set_option maxRecDepth 100000 in
set_option maxHeartbeats 4000000 in
theorem v_M_prime_53 (K : av_K p s m args meth c D cl8 ca A b_M_prime 3 R_M WS) (G : av_G NS tabON A s s.heap) (hr : meth.sig.returnType = some .int) (fu : Nat) {r : Int32 × List va_E} (v0 : Nat) (v1 : Int32) (v2 : Int32) (s0 : Nat) (s1 : Int32) (w : List va_E) (h : f_M_prime_53 fu v0 v1 v2 s0 s1 w = some r) : av_VI p l e rm_M_prime s m args below meth c D cl8 A ad ca 3 r 53 [some (.ref v0), some (.int v1), some (.int v2)] [.int s1, .ref s0] w := by
  unfold f_M_prime_53 at h
  obtain ⟨w1, ew1, h⟩ := hp_bd h
  refine hv_pi K fp_M_58 d_M_prime_53 ew1 ?_
  refine av_aload_n K d_M_prime_56 rfl rfl ?_
  obtain ⟨x2, ex2, h⟩ := hp_bd h
  refine hv_gi K fl_M_58 d_M_prime_57 ex2 ?_
  refine av_if_le (tgt := 67) K d_M_prime_60 rfl (fun hc => ?_) (fun hc => ?_)
  · rw [if_pos hc] at h
    refine av_iload_n K d_M_prime_67 rfl rfl ?_
    refine av_if_ne (tgt := 80) K d_M_prime_68 rfl (fun hc => ?_) (fun hc => ?_)
    · rw [if_neg hc] at h
      refine av_aload_n K d_M_prime_80 rfl rfl ?_
      obtain ⟨q3, eq3, h⟩ := hp_bd h
      refine hv_gr K fl_M_55 d_M_prime_81 eq3 ?_
      refine av_iload_n K d_M_prime_84 rfl rfl ?_
      obtain ⟨x4, ex4, h⟩ := hp_bd h
      refine hv_ri K d_M_prime_85 ex4 ?_
      refine hv_fg (L' := [none, none, none]) [0, 1, 2] rfl ?_
      exact v_M_prime_86 K G hr fu (x4) _ h
    · rw [if_pos hc] at h
      refine av_aload_n K d_M_prime_71 rfl rfl ?_
      obtain ⟨q5, eq5, h⟩ := hp_bd h
      refine hv_gr K fl_M_52 d_M_prime_72 eq5 ?_
      refine av_iload_n K d_M_prime_75 rfl rfl ?_
      obtain ⟨x6, ex6, h⟩ := hp_bd h
      refine hv_ri K d_M_prime_76 ex6 ?_
      refine av_goto (tgt := 86) K d_M_prime_77 rfl ?_
      refine hv_fg (L' := [none, none, none]) [0, 1, 2] rfl ?_
      exact v_M_prime_86 K G hr fu (x6) _ h
  · rw [if_neg hc] at h
    refine av_iconst (v := (0 : Int32)) K d_M_prime_63 (by decide) ?_
    refine av_goto (tgt := 86) K d_M_prime_64 rfl ?_
    refine hv_fg (L' := [none, none, none]) [0, 1, 2] rfl ?_
    exact v_M_prime_86 K G hr fu ((0 : Int32)) _ h
set_option maxRecDepth 100000 in
set_option maxHeartbeats 4000000 in
theorem v_M_prime_48 (K : av_K p s m args meth c D cl8 ca A b_M_prime 3 R_M WS) (G : av_G NS tabON A s s.heap) (hr : meth.sig.returnType = some .int) (fu : Nat) {r : Int32 × List va_E} (v0 : Nat) (v1 : Int32) (v2 : Int32) (s0 : Nat) (w : List va_E) (h : f_M_prime_48 fu v0 v1 v2 s0 w = some r) : av_VI p l e rm_M_prime s m args below meth c D cl8 A ad ca 3 r 48 [some (.ref v0), some (.int v1), some (.int v2)] [.ref s0] w := by
  unfold f_M_prime_48 at h
  refine av_iconst (v := (4 : Int32)) K d_M_prime_48 (by decide) ?_
  refine av_goto (tgt := 53) K d_M_prime_49 rfl ?_
  exact v_M_prime_53 K G hr fu (v0) (v1) (v2) (s0) ((4 : Int32)) _ h
set_option maxRecDepth 100000 in
set_option maxHeartbeats 4000000 in
theorem v_M_prime_33 (K : av_K p s m args meth c D cl8 ca A b_M_prime 3 R_M WS) (G : av_G NS tabON A s s.heap) (hr : meth.sig.returnType = some .int) (fu : Nat) {r : Int32 × List va_E} (w : List va_E) (h : f_M_prime_33 fu w = some r) : av_VI p l e rm_M_prime s m args below meth c D cl8 A ad ca 3 r 33 [none, none, none] [] w := by
  unfold f_M_prime_33 at h
  refine av_iconst (v := (0 : Int32)) K d_M_prime_33 (by decide) ?_
  obtain rfl := Option.some.inj h
  exact av_ireturn K hr d_M_prime_34 rfl
set_option maxRecDepth 100000 in
set_option maxHeartbeats 4000000 in
theorem v_M_prime_15 (K : av_K p s m args meth c D cl8 ca A b_M_prime 3 R_M WS) (G : av_G NS tabON A s s.heap) (hr : meth.sig.returnType = some .int) (fu : Nat) {r : Int32 × List va_E} (v0 : Nat) (v1 : Int32) (v2 : Int32) (s0 : Nat) (s1 : Int32) (w : List va_E) (h : f_M_prime_15 fu v0 v1 v2 s0 s1 w = some r) : av_VI p l e rm_M_prime s m args below meth c D cl8 A ad ca 3 r 15 [some (.ref v0), some (.int v1), some (.int v2)] [.int s1, .ref s0] w := by
  unfold f_M_prime_15 at h
  obtain ⟨w1, ew1, h⟩ := hp_bd h
  refine hv_pi K fp_M_58 d_M_prime_15 ew1 ?_
  refine av_aload_n K d_M_prime_18 rfl rfl ?_
  obtain ⟨x2, ex2, h⟩ := hp_bd h
  refine hv_gi K fl_M_58 d_M_prime_19 ex2 ?_
  refine av_if_gt (tgt := 33) K d_M_prime_22 rfl (fun hc => ?_) (fun hc => ?_)
  · rw [if_pos hc] at h
    refine hv_fg (L' := [none, none, none]) [0, 1, 2] rfl ?_
    exact v_M_prime_33 K G hr fu _ h
  · rw [if_neg hc] at h
    refine av_aload_n K d_M_prime_25 rfl rfl ?_
    refine av_iconst (v := (2 : Int32)) K d_M_prime_26 (by decide) ?_
    obtain ⟨_, eo27, h⟩ := hp_bd h
    obtain ⟨r3, er3, h⟩ := hp_bd h
    obtain ⟨fs27, ho27⟩ := hp_is_of eo27
    refine av_cVi K G (c_M_fails (tab := tabON) er3) (cwV 1 K.2.2.2.2.1 (gV ml_M_143 im_M_fails se_M_fails in_M co_M_fails) rfl rfl rfl cd_M_fails ⟨Nat.le_of_ble_eq_true rfl, Nat.le_of_ble_eq_true rfl⟩) rfl ho27 rfl rfl (Nat.le_of_ble_eq_true rfl) d_M_prime_27 ⟨Nat.zero_le _, Nat.zero_le _⟩ (fun a9 u9 h9 => ?_)
    obtain ⟨rfl, rfl⟩ : a9 = r3.1 ∧ u9 = r3.2 := ⟨congrArg Prod.fst h9, congrArg Prod.snd h9⟩
    refine av_if_eq (tgt := 35) K d_M_prime_30 rfl (fun hc => ?_) (fun hc => ?_)
    · rw [if_pos hc] at h
      refine av_aload_n K d_M_prime_35 rfl rfl ?_
      refine av_iload_n K d_M_prime_36 rfl rfl ?_
      refine av_if_lt (tgt := 48) K d_M_prime_37 rfl (fun hc => ?_) (fun hc => ?_)
      · rw [if_pos hc] at h
        exact v_M_prime_48 K G hr fu (v0) (v1) (v2) (v0) _ h
      · rw [if_neg hc] at h
        refine av_iload_n K d_M_prime_40 rfl rfl ?_
        refine av_aload_n K d_M_prime_41 rfl rfl ?_
        obtain ⟨x4, ex4, h⟩ := hp_bd h
        refine hv_gi K fl_M_113 d_M_prime_42 ex4 ?_
        refine av_icmp_lt (tgt := 52) K d_M_prime_45 rfl (fun hc => ?_) (fun hc => ?_)
        · rw [if_pos hc] at h
          refine av_iconst (v := (0 : Int32)) K d_M_prime_52 (by decide) ?_
          exact v_M_prime_53 K G hr fu (v0) (v1) (v2) (v0) ((0 : Int32)) _ h
        · rw [if_neg hc] at h
          exact v_M_prime_48 K G hr fu (v0) (v1) (v2) (v0) _ h
    · rw [if_neg hc] at h
      refine hv_fg (L' := [none, none, none]) [0, 1, 2] rfl ?_
      exact v_M_prime_33 K G hr fu _ h
set_option maxRecDepth 100000 in
set_option maxHeartbeats 4000000 in
theorem v_M_prime_10 (K : av_K p s m args meth c D cl8 ca A b_M_prime 3 R_M WS) (G : av_G NS tabON A s s.heap) (hr : meth.sig.returnType = some .int) (fu : Nat) {r : Int32 × List va_E} (v0 : Nat) (v1 : Int32) (v2 : Int32) (s0 : Nat) (w : List va_E) (h : f_M_prime_10 fu v0 v1 v2 s0 w = some r) : av_VI p l e rm_M_prime s m args below meth c D cl8 A ad ca 3 r 10 [some (.ref v0), some (.int v1), some (.int v2)] [.ref s0] w := by
  unfold f_M_prime_10 at h
  refine av_iconst (v := (1 : Int32)) K d_M_prime_10 (by decide) ?_
  refine av_goto (tgt := 15) K d_M_prime_11 rfl ?_
  exact v_M_prime_15 K G hr fu (v0) (v1) (v2) (s0) ((1 : Int32)) _ h
set_option maxRecDepth 100000 in
set_option maxHeartbeats 4000000 in
theorem v_M_prime (K : av_K p s m args meth c D cl8 ca A b_M_prime 3 R_M WS) (G : av_G NS tabON A s s.heap) (hr : meth.sig.returnType = some .int) (fu : Nat) {r : Int32 × List va_E} (v0 : Nat) (v1 : Int32) (v2 : Int32) (w : List va_E) (h : f_M_prime fu v0 v1 v2 w = some r) : av_VI p l e rm_M_prime s m args below meth c D cl8 A ad ca 3 r 0 [some (.ref v0), some (.int v1), some (.int v2)] [] w := by
  unfold f_M_prime at h
  refine av_aload_n K d_M_prime_0 rfl rfl ?_
  refine av_iload_n K d_M_prime_1 rfl rfl ?_
  refine av_if_lt (tgt := 10) K d_M_prime_2 rfl (fun hc => ?_) (fun hc => ?_)
  · rw [if_pos hc] at h
    exact v_M_prime_10 K G hr fu (v0) (v1) (v2) (v0) _ h
  · rw [if_neg hc] at h
    refine av_iload_n K d_M_prime_5 rfl rfl ?_
    refine av_iconst (v := (1 : Int32)) K d_M_prime_6 (by decide) ?_
    refine av_icmp_le (tgt := 14) K d_M_prime_7 rfl (fun hc => ?_) (fun hc => ?_)
    · rw [if_pos hc] at h
      refine av_iconst (v := (0 : Int32)) K d_M_prime_14 (by decide) ?_
      exact v_M_prime_15 K G hr fu (v0) (v1) (v2) (v0) ((0 : Int32)) _ h
    · rw [if_neg hc] at h
      exact v_M_prime_10 K G hr fu (v0) (v1) (v2) (v0) _ h
end
set_option maxRecDepth 100000 in
theorem c_M_prime {l : Launch} {D : va_G} {ca : Nat → Nat} {tab : Nat → Int64} {fu : Nat} {v0 : Nat} {v1 : Int32} {v2 : Int32} {w : List va_E} {r : Int32 × List va_E} (h : f_M_prime fu v0 v1 v2 w = some r) : av_Ci l D cl8 ca NS tabON y_M_prime w_M_prime rm_M_prime [.ref v0, .int v1, .int v2] w (fun v u => (v, u) = r) :=
  av_inI (cc := b_M_prime) (nL := 3) (by decide +kernel) rfl (Nat.le_of_ble_eq_true rfl) (fun p e s m args below meth c A ad K G hr => v_M_prime K G hr fu v0 v1 v2 w h)

-- FaultTreeDeskModel.share(I)I
theorem d_M_share_0 : decode b_M_share 0 = .ok (.aload_n 0, 1) := by decide +kernel
theorem d_M_share_1 : decode b_M_share 1 = .ok (.aload_n 0, 1) := by decide +kernel
theorem d_M_share_2 : decode b_M_share 2 = .ok (.iload_n 1, 1) := by decide +kernel
theorem d_M_share_3 : decode b_M_share 3 = .ok (.invokevirtual 67, 3) := by decide +kernel
theorem d_M_share_6 : decode b_M_share 6 = .ok (.ifCond .eq 7, 3) := by decide +kernel
theorem d_M_share_9 : decode b_M_share 9 = .ok (.iconst 0, 1) := by decide +kernel
theorem d_M_share_10 : decode b_M_share 10 = .ok (.goto 4, 3) := by decide +kernel
theorem d_M_share_13 : decode b_M_share 13 = .ok (.iconst 1, 1) := by decide +kernel
theorem d_M_share_14 : decode b_M_share 14 = .ok (.putfield 58, 3) := by decide +kernel
theorem d_M_share_17 : decode b_M_share 17 = .ok (.aload_n 0, 1) := by decide +kernel
theorem d_M_share_18 : decode b_M_share 18 = .ok (.getfield 58, 3) := by decide +kernel
theorem d_M_share_21 : decode b_M_share 21 = .ok (.ifCond .gt 11, 3) := by decide +kernel
theorem d_M_share_24 : decode b_M_share 24 = .ok (.aload_n 0, 1) := by decide +kernel
theorem d_M_share_25 : decode b_M_share 25 = .ok (.iconst 2, 1) := by decide +kernel
theorem d_M_share_26 : decode b_M_share 26 = .ok (.invokevirtual 143, 3) := by decide +kernel
theorem d_M_share_29 : decode b_M_share 29 = .ok (.ifCond .eq 5, 3) := by decide +kernel
theorem d_M_share_32 : decode b_M_share 32 = .ok (.iconst 0, 1) := by decide +kernel
theorem d_M_share_33 : decode b_M_share 33 = .ok (.ireturn, 1) := by decide +kernel
theorem d_M_share_34 : decode b_M_share 34 = .ok (.iconst 0, 1) := by decide +kernel
theorem d_M_share_35 : decode b_M_share 35 = .ok (.istore_n 2, 1) := by decide +kernel
theorem d_M_share_36 : decode b_M_share 36 = .ok (.iconst 0, 1) := by decide +kernel
theorem d_M_share_37 : decode b_M_share 37 = .ok (.istore_n 3, 1) := by decide +kernel
theorem d_M_share_38 : decode b_M_share 38 = .ok (.iload_n 3, 1) := by decide +kernel
theorem d_M_share_39 : decode b_M_share 39 = .ok (.aload_n 0, 1) := by decide +kernel
theorem d_M_share_40 : decode b_M_share 40 = .ok (.getfield 113, 3) := by decide +kernel
theorem d_M_share_43 : decode b_M_share 43 = .ok (.if_icmp .ge 38, 3) := by decide +kernel
theorem d_M_share_46 : decode b_M_share 46 = .ok (.iload_n 2, 1) := by decide +kernel
theorem d_M_share_47 : decode b_M_share 47 = .ok (.aload_n 0, 1) := by decide +kernel
theorem d_M_share_48 : decode b_M_share 48 = .ok (.getfield 52, 3) := by decide +kernel
theorem d_M_share_51 : decode b_M_share 51 = .ok (.iload_n 3, 1) := by decide +kernel
theorem d_M_share_52 : decode b_M_share 52 = .ok (.iaload, 1) := by decide +kernel
theorem d_M_share_53 : decode b_M_share 53 = .ok (.aload_n 0, 1) := by decide +kernel
theorem d_M_share_54 : decode b_M_share 54 = .ok (.getfield 55, 3) := by decide +kernel
theorem d_M_share_57 : decode b_M_share 57 = .ok (.iload_n 3, 1) := by decide +kernel
theorem d_M_share_58 : decode b_M_share 58 = .ok (.iaload, 1) := by decide +kernel
theorem d_M_share_59 : decode b_M_share 59 = .ok (.ior, 1) := by decide +kernel
theorem d_M_share_60 : decode b_M_share 60 = .ok (.iload_n 1, 1) := by decide +kernel
theorem d_M_share_61 : decode b_M_share 61 = .ok (.ishr, 1) := by decide +kernel
theorem d_M_share_62 : decode b_M_share 62 = .ok (.iconst 1, 1) := by decide +kernel
theorem d_M_share_63 : decode b_M_share 63 = .ok (.iand, 1) := by decide +kernel
theorem d_M_share_64 : decode b_M_share 64 = .ok (.iconst 1, 1) := by decide +kernel
theorem d_M_share_65 : decode b_M_share 65 = .ok (.if_icmp .ne 7, 3) := by decide +kernel
theorem d_M_share_68 : decode b_M_share 68 = .ok (.iconst 1, 1) := by decide +kernel
theorem d_M_share_69 : decode b_M_share 69 = .ok (.goto 4, 3) := by decide +kernel
theorem d_M_share_72 : decode b_M_share 72 = .ok (.iconst 0, 1) := by decide +kernel
theorem d_M_share_73 : decode b_M_share 73 = .ok (.iadd, 1) := by decide +kernel
theorem d_M_share_74 : decode b_M_share 74 = .ok (.istore_n 2, 1) := by decide +kernel
theorem d_M_share_75 : decode b_M_share 75 = .ok (.iinc 3 1, 3) := by decide +kernel
theorem d_M_share_78 : decode b_M_share 78 = .ok (.goto (-40), 3) := by decide +kernel
theorem d_M_share_81 : decode b_M_share 81 = .ok (.iload_n 2, 1) := by decide +kernel
theorem d_M_share_82 : decode b_M_share 82 = .ok (.ireturn, 1) := by decide +kernel
def rm_M_share : Room := { frames := 5, cells := 0, slots := 0, locals := 117 }
def f_M_share_32 (fu : Nat) (w : List va_E) : Option (Int32 × List va_E) := (some ((0 : Int32), w))
def f_M_share_73 (fu : Nat) (k38 : Nat → Int32 → Int32 → Int32 → List va_E → Option (Int32 × List va_E)) (v0 : Nat) (v1 : Int32) (v3 : Int32) (s0 : Int32) (s1 : Int32) (w : List va_E) : Option (Int32 × List va_E) := (k38 (v0) (v1) ((s0 + s1)) ((v3 + (1 : Int32))) w)
def f_M_share_38 (fu : Nat) : Nat → Nat → Int32 → Int32 → Int32 → List va_E → Option (Int32 × List va_E)
  | 0, _, _, _, _, _ => none
  | n + 1, v0, v1, v2, v3, w => ((hp_gi w v0 7 16).bind fun x1 => (if x1 ≤ v3 then (some (v2, w)) else ((hp_gr w v0 7 17).bind fun q2 => ((hp_ri w q2 v3).bind fun x3 => ((hp_gr w v0 7 18).bind fun q4 => ((hp_ri w q4 v3).bind fun x5 => (if (((x3 ||| x5) >>> (v1 &&& 31)) &&& (1 : Int32)) = (1 : Int32) then (f_M_share_73 fu (f_M_share_38 fu n) (v0) (v1) (v3) (v2) ((1 : Int32)) w) else (f_M_share_73 fu (f_M_share_38 fu n) (v0) (v1) (v3) (v2) ((0 : Int32)) w))))))))
def f_M_share_14 (fu : Nat) (v0 : Nat) (v1 : Int32) (s0 : Nat) (s1 : Int32) (w : List va_E) : Option (Int32 × List va_E) := ((hp_pi w s0 7 0 s1).bind fun w1 => ((hp_gi w1 v0 7 0).bind fun x2 => (if 0 < x2 then (f_M_share_32 fu w1) else ((hp_is w1 v0 7).bind fun _ => ((f_M_fails fu v0 (2 : Int32) w1).bind fun r3 => (if r3.1 = 0 then (f_M_share_38 fu fu (v0) (v1) ((0 : Int32)) ((0 : Int32)) r3.2) else (f_M_share_32 fu r3.2)))))))
def f_M_share (fu : Nat) (v0 : Nat) (v1 : Int32) (w : List va_E) : Option (Int32 × List va_E) := ((hp_is w v0 7).bind fun _ => ((f_M_isEvent fu v0 v1 w).bind fun r1 => (if r1.1 = 0 then (f_M_share_14 fu (v0) (v1) (v0) ((1 : Int32)) r1.2) else (f_M_share_14 fu (v0) (v1) (v0) ((0 : Int32)) r1.2))))
section
variable {p : Program} {l : Launch} {e : Env} {s : State} {m : MethodId} {args : Array Value} {below : List Frame} {meth : Method} {c : Code} {D : va_G} {ca : Nat → Nat} {A : Nat → Prop} {ad : Nat → Nat}
set_option maxRecDepth 100000 in
set_option maxHeartbeats 4000000 in
theorem v_M_share_32 (K : av_K p s m args meth c D cl8 ca A b_M_share 4 R_M WS) (G : av_G NS tabON A s s.heap) (hr : meth.sig.returnType = some .int) (fu : Nat) {r : Int32 × List va_E} (w : List va_E) (h : f_M_share_32 fu w = some r) : av_VI p l e rm_M_share s m args below meth c D cl8 A ad ca 4 r 32 [none, none, none, none] [] w := by
  unfold f_M_share_32 at h
  refine av_iconst (v := (0 : Int32)) K d_M_share_32 (by decide) ?_
  obtain rfl := Option.some.inj h
  exact av_ireturn K hr d_M_share_33 rfl
set_option maxRecDepth 100000 in
set_option maxHeartbeats 4000000 in
theorem v_M_share_73 (K : av_K p s m args meth c D cl8 ca A b_M_share 4 R_M WS) (G : av_G NS tabON A s s.heap) (hr : meth.sig.returnType = some .int) (fu : Nat) {r : Int32 × List va_E} (k38 : Nat → Int32 → Int32 → Int32 → List va_E → Option (Int32 × List va_E)) (hk38 : ∀ (v0 : Nat) (v1 : Int32) (v2 : Int32) (v3 : Int32) (w : List va_E), k38 v0 v1 v2 v3 w = some r → av_VI p l e rm_M_share s m args below meth c D cl8 A ad ca 4 r 38 [some (.ref v0), some (.int v1), some (.int v2), some (.int v3)] [] w) (v0 : Nat) (v1 : Int32) (v3 : Int32) (s0 : Int32) (s1 : Int32) (w : List va_E) (h : f_M_share_73 fu k38 v0 v1 v3 s0 s1 w = some r) : av_VI p l e rm_M_share s m args below meth c D cl8 A ad ca 4 r 73 [some (.ref v0), some (.int v1), none, some (.int v3)] [.int s1, .int s0] w := by
  unfold f_M_share_73 at h
  refine av_iadd K d_M_share_73 ?_
  refine av_istore_n (L' := [some (.ref v0), some (.int v1), some (.int (s0 + s1)), some (.int v3)]) K d_M_share_74 rfl (Nat.le_of_ble_eq_true rfl) rfl ?_
  refine av_iinc (v := (v3 + (1 : Int32))) (L' := [some (.ref v0), some (.int v1), some (.int (s0 + s1)), some (.int (v3 + (1 : Int32)))]) K d_M_share_75 rfl (congrArg (fun z => v3 + z) (show Int32.ofInt 1 = (1 : Int32) by decide)) (Nat.le_of_ble_eq_true rfl) rfl ?_
  refine av_goto (tgt := 38) K d_M_share_78 rfl ?_
  exact hk38 (v0) (v1) ((s0 + s1)) ((v3 + (1 : Int32))) _ h
set_option maxRecDepth 100000 in
set_option maxHeartbeats 4000000 in
theorem v_M_share_38 (K : av_K p s m args meth c D cl8 ca A b_M_share 4 R_M WS) (G : av_G NS tabON A s s.heap) (hr : meth.sig.returnType = some .int) (fu : Nat) {r : Int32 × List va_E} : ∀ (n : Nat) (v0 : Nat) (v1 : Int32) (v2 : Int32) (v3 : Int32) (w : List va_E), f_M_share_38 fu n v0 v1 v2 v3 w = some r → av_VI p l e rm_M_share s m args below meth c D cl8 A ad ca 4 r 38 [some (.ref v0), some (.int v1), some (.int v2), some (.int v3)] [] w := by
  intro n
  induction n with
  | zero => intro _ _ _ _ _ h; cases h
  | succ n ih =>
    intro v0 v1 v2 v3 w h
    unfold f_M_share_38 at h
    refine av_iload_n K d_M_share_38 rfl rfl ?_
    refine av_aload_n K d_M_share_39 rfl rfl ?_
    obtain ⟨x1, ex1, h⟩ := hp_bd h
    refine hv_gi K fl_M_113 d_M_share_40 ex1 ?_
    refine av_icmp_ge (tgt := 81) K d_M_share_43 rfl (fun hc => ?_) (fun hc => ?_)
    · rw [if_pos hc] at h
      refine av_iload_n K d_M_share_81 rfl rfl ?_
      obtain rfl := Option.some.inj h
      exact av_ireturn K hr d_M_share_82 rfl
    · rw [if_neg hc] at h
      refine av_iload_n K d_M_share_46 rfl rfl ?_
      refine av_aload_n K d_M_share_47 rfl rfl ?_
      obtain ⟨q2, eq2, h⟩ := hp_bd h
      refine hv_gr K fl_M_52 d_M_share_48 eq2 ?_
      refine av_iload_n K d_M_share_51 rfl rfl ?_
      obtain ⟨x3, ex3, h⟩ := hp_bd h
      refine hv_ri K d_M_share_52 ex3 ?_
      refine av_aload_n K d_M_share_53 rfl rfl ?_
      obtain ⟨q4, eq4, h⟩ := hp_bd h
      refine hv_gr K fl_M_55 d_M_share_54 eq4 ?_
      refine av_iload_n K d_M_share_57 rfl rfl ?_
      obtain ⟨x5, ex5, h⟩ := hp_bd h
      refine hv_ri K d_M_share_58 ex5 ?_
      refine av_ior K d_M_share_59 ?_
      refine av_iload_n K d_M_share_60 rfl rfl ?_
      refine av_ishr K d_M_share_61 ?_
      refine av_iconst (v := (1 : Int32)) K d_M_share_62 (by decide) ?_
      refine av_iand K d_M_share_63 ?_
      refine av_iconst (v := (1 : Int32)) K d_M_share_64 (by decide) ?_
      refine av_icmp_ne (tgt := 72) K d_M_share_65 rfl (fun hc => ?_) (fun hc => ?_)
      · rw [if_neg hc] at h
        refine av_iconst (v := (0 : Int32)) K d_M_share_72 (by decide) ?_
        refine hv_fg (L' := [some (.ref v0), some (.int v1), none, some (.int v3)]) [2] rfl ?_
        exact v_M_share_73 K G hr fu (f_M_share_38 fu n) ih (v0) (v1) (v3) (v2) ((0 : Int32)) _ h
      · rw [if_pos hc] at h
        refine av_iconst (v := (1 : Int32)) K d_M_share_68 (by decide) ?_
        refine av_goto (tgt := 73) K d_M_share_69 rfl ?_
        refine hv_fg (L' := [some (.ref v0), some (.int v1), none, some (.int v3)]) [2] rfl ?_
        exact v_M_share_73 K G hr fu (f_M_share_38 fu n) ih (v0) (v1) (v3) (v2) ((1 : Int32)) _ h
set_option maxRecDepth 100000 in
set_option maxHeartbeats 4000000 in
theorem v_M_share_14 (K : av_K p s m args meth c D cl8 ca A b_M_share 4 R_M WS) (G : av_G NS tabON A s s.heap) (hr : meth.sig.returnType = some .int) (fu : Nat) {r : Int32 × List va_E} (v0 : Nat) (v1 : Int32) (s0 : Nat) (s1 : Int32) (w : List va_E) (h : f_M_share_14 fu v0 v1 s0 s1 w = some r) : av_VI p l e rm_M_share s m args below meth c D cl8 A ad ca 4 r 14 [some (.ref v0), some (.int v1), none, none] [.int s1, .ref s0] w := by
  unfold f_M_share_14 at h
  obtain ⟨w1, ew1, h⟩ := hp_bd h
  refine hv_pi K fp_M_58 d_M_share_14 ew1 ?_
  refine av_aload_n K d_M_share_17 rfl rfl ?_
  obtain ⟨x2, ex2, h⟩ := hp_bd h
  refine hv_gi K fl_M_58 d_M_share_18 ex2 ?_
  refine av_if_gt (tgt := 32) K d_M_share_21 rfl (fun hc => ?_) (fun hc => ?_)
  · rw [if_pos hc] at h
    refine hv_fg (L' := [none, none, none, none]) [0, 1] rfl ?_
    exact v_M_share_32 K G hr fu _ h
  · rw [if_neg hc] at h
    refine av_aload_n K d_M_share_24 rfl rfl ?_
    refine av_iconst (v := (2 : Int32)) K d_M_share_25 (by decide) ?_
    obtain ⟨_, eo26, h⟩ := hp_bd h
    obtain ⟨r3, er3, h⟩ := hp_bd h
    obtain ⟨fs26, ho26⟩ := hp_is_of eo26
    refine av_cVi K G (c_M_fails (tab := tabON) er3) (cwV 1 K.2.2.2.2.1 (gV ml_M_143 im_M_fails se_M_fails in_M co_M_fails) rfl rfl rfl cd_M_fails ⟨Nat.le_of_ble_eq_true rfl, Nat.le_of_ble_eq_true rfl⟩) rfl ho26 rfl rfl (Nat.le_of_ble_eq_true rfl) d_M_share_26 ⟨Nat.zero_le _, Nat.zero_le _⟩ (fun a9 u9 h9 => ?_)
    obtain ⟨rfl, rfl⟩ : a9 = r3.1 ∧ u9 = r3.2 := ⟨congrArg Prod.fst h9, congrArg Prod.snd h9⟩
    refine av_if_eq (tgt := 34) K d_M_share_29 rfl (fun hc => ?_) (fun hc => ?_)
    · rw [if_pos hc] at h
      refine av_iconst (v := (0 : Int32)) K d_M_share_34 (by decide) ?_
      refine av_istore_n (L' := [some (.ref v0), some (.int v1), some (.int (0 : Int32)), none]) K d_M_share_35 rfl (Nat.le_of_ble_eq_true rfl) rfl ?_
      refine av_iconst (v := (0 : Int32)) K d_M_share_36 (by decide) ?_
      refine av_istore_n (L' := [some (.ref v0), some (.int v1), some (.int (0 : Int32)), some (.int (0 : Int32))]) K d_M_share_37 rfl (Nat.le_of_ble_eq_true rfl) rfl ?_
      exact v_M_share_38 K G hr fu fu (v0) (v1) ((0 : Int32)) ((0 : Int32)) _ h
    · rw [if_neg hc] at h
      refine hv_fg (L' := [none, none, none, none]) [0, 1] rfl ?_
      exact v_M_share_32 K G hr fu _ h
set_option maxRecDepth 100000 in
set_option maxHeartbeats 4000000 in
theorem v_M_share (K : av_K p s m args meth c D cl8 ca A b_M_share 4 R_M WS) (G : av_G NS tabON A s s.heap) (hr : meth.sig.returnType = some .int) (fu : Nat) {r : Int32 × List va_E} (v0 : Nat) (v1 : Int32) (w : List va_E) (h : f_M_share fu v0 v1 w = some r) : av_VI p l e rm_M_share s m args below meth c D cl8 A ad ca 4 r 0 [some (.ref v0), some (.int v1), none, none] [] w := by
  unfold f_M_share at h
  refine av_aload_n K d_M_share_0 rfl rfl ?_
  refine av_aload_n K d_M_share_1 rfl rfl ?_
  refine av_iload_n K d_M_share_2 rfl rfl ?_
  obtain ⟨_, eo3, h⟩ := hp_bd h
  obtain ⟨r1, er1, h⟩ := hp_bd h
  obtain ⟨fs3, ho3⟩ := hp_is_of eo3
  refine av_cVi K G (c_M_isEvent (tab := tabON) er1) (cwV 1 K.2.2.2.2.1 (gV ml_M_67 im_M_isEvent se_M_isEvent in_M co_M_isEvent) rfl rfl rfl cd_M_isEvent ⟨Nat.le_of_ble_eq_true rfl, Nat.le_of_ble_eq_true rfl⟩) rfl ho3 rfl rfl (Nat.le_of_ble_eq_true rfl) d_M_share_3 ⟨Nat.zero_le _, Nat.zero_le _⟩ (fun a9 u9 h9 => ?_)
  obtain ⟨rfl, rfl⟩ : a9 = r1.1 ∧ u9 = r1.2 := ⟨congrArg Prod.fst h9, congrArg Prod.snd h9⟩
  refine av_if_eq (tgt := 13) K d_M_share_6 rfl (fun hc => ?_) (fun hc => ?_)
  · rw [if_pos hc] at h
    refine av_iconst (v := (1 : Int32)) K d_M_share_13 (by decide) ?_
    exact v_M_share_14 K G hr fu (v0) (v1) (v0) ((1 : Int32)) _ h
  · rw [if_neg hc] at h
    refine av_iconst (v := (0 : Int32)) K d_M_share_9 (by decide) ?_
    refine av_goto (tgt := 14) K d_M_share_10 rfl ?_
    exact v_M_share_14 K G hr fu (v0) (v1) (v0) ((0 : Int32)) _ h
end
set_option maxRecDepth 100000 in
theorem c_M_share {l : Launch} {D : va_G} {ca : Nat → Nat} {tab : Nat → Int64} {fu : Nat} {v0 : Nat} {v1 : Int32} {w : List va_E} {r : Int32 × List va_E} (h : f_M_share fu v0 v1 w = some r) : av_Ci l D cl8 ca NS tabON y_M_share w_M_share rm_M_share [.ref v0, .int v1] w (fun v u => (v, u) = r) :=
  av_inI (cc := b_M_share) (nL := 4) (by decide +kernel) rfl (Nat.le_of_ble_eq_true rfl) (fun p e s m args below meth c A ad K G hr => v_M_share K G hr fu v0 v1 w h)

-- FaultTreeDeskModel.isUnder(II)Z
theorem d_M_isUnder_0 : decode b_M_isUnder 0 = .ok (.iload_n 2, 1) := by decide +kernel
theorem d_M_isUnder_1 : decode b_M_isUnder 1 = .ok (.bipush 16, 2) := by decide +kernel
theorem d_M_isUnder_3 : decode b_M_isUnder 3 = .ok (.if_icmp .lt 20, 3) := by decide +kernel
theorem d_M_isUnder_6 : decode b_M_isUnder 6 = .ok (.aload_n 0, 1) := by decide +kernel
theorem d_M_isUnder_7 : decode b_M_isUnder 7 = .ok (.getfield 32, 3) := by decide +kernel
theorem d_M_isUnder_10 : decode b_M_isUnder 10 = .ok (.bipush 12, 2) := by decide +kernel
theorem d_M_isUnder_12 : decode b_M_isUnder 12 = .ok (.iload_n 1, 1) := by decide +kernel
theorem d_M_isUnder_13 : decode b_M_isUnder 13 = .ok (.imul, 1) := by decide +kernel
theorem d_M_isUnder_14 : decode b_M_isUnder 14 = .ok (.iload_n 2, 1) := by decide +kernel
theorem d_M_isUnder_15 : decode b_M_isUnder 15 = .ok (.iadd, 1) := by decide +kernel
theorem d_M_isUnder_16 : decode b_M_isUnder 16 = .ok (.bipush 16, 2) := by decide +kernel
theorem d_M_isUnder_18 : decode b_M_isUnder 18 = .ok (.isub, 1) := by decide +kernel
theorem d_M_isUnder_19 : decode b_M_isUnder 19 = .ok (.baload, 1) := by decide +kernel
theorem d_M_isUnder_20 : decode b_M_isUnder 20 = .ok (.ifCond .ne 12, 3) := by decide +kernel
theorem d_M_isUnder_23 : decode b_M_isUnder 23 = .ok (.aload_n 0, 1) := by decide +kernel
theorem d_M_isUnder_24 : decode b_M_isUnder 24 = .ok (.iload_n 1, 1) := by decide +kernel
theorem d_M_isUnder_25 : decode b_M_isUnder 25 = .ok (.iload_n 2, 1) := by decide +kernel
theorem d_M_isUnder_26 : decode b_M_isUnder 26 = .ok (.invokevirtual 74, 3) := by decide +kernel
theorem d_M_isUnder_29 : decode b_M_isUnder 29 = .ok (.ifCond .eq 7, 3) := by decide +kernel
theorem d_M_isUnder_32 : decode b_M_isUnder 32 = .ok (.iconst 1, 1) := by decide +kernel
theorem d_M_isUnder_33 : decode b_M_isUnder 33 = .ok (.goto 4, 3) := by decide +kernel
theorem d_M_isUnder_36 : decode b_M_isUnder 36 = .ok (.iconst 0, 1) := by decide +kernel
theorem d_M_isUnder_37 : decode b_M_isUnder 37 = .ok (.istore_n 3, 1) := by decide +kernel
theorem d_M_isUnder_38 : decode b_M_isUnder 38 = .ok (.iconst 0, 1) := by decide +kernel
theorem d_M_isUnder_39 : decode b_M_isUnder 39 = .ok (.istore 4, 2) := by decide +kernel
theorem d_M_isUnder_41 : decode b_M_isUnder 41 = .ok (.iload 4, 2) := by decide +kernel
theorem d_M_isUnder_43 : decode b_M_isUnder 43 = .ok (.aload_n 0, 1) := by decide +kernel
theorem d_M_isUnder_44 : decode b_M_isUnder 44 = .ok (.getfield 64, 3) := by decide +kernel
theorem d_M_isUnder_47 : decode b_M_isUnder 47 = .ok (.if_icmp .ge 44, 3) := by decide +kernel
theorem d_M_isUnder_50 : decode b_M_isUnder 50 = .ok (.iload_n 3, 1) := by decide +kernel
theorem d_M_isUnder_51 : decode b_M_isUnder 51 = .ok (.ifCond .ne 28, 3) := by decide +kernel
theorem d_M_isUnder_54 : decode b_M_isUnder 54 = .ok (.aload_n 0, 1) := by decide +kernel
theorem d_M_isUnder_55 : decode b_M_isUnder 55 = .ok (.getfield 32, 3) := by decide +kernel
theorem d_M_isUnder_58 : decode b_M_isUnder 58 = .ok (.bipush 12, 2) := by decide +kernel
theorem d_M_isUnder_60 : decode b_M_isUnder 60 = .ok (.iload_n 1, 1) := by decide +kernel
theorem d_M_isUnder_61 : decode b_M_isUnder 61 = .ok (.imul, 1) := by decide +kernel
theorem d_M_isUnder_62 : decode b_M_isUnder 62 = .ok (.iload 4, 2) := by decide +kernel
theorem d_M_isUnder_64 : decode b_M_isUnder 64 = .ok (.iadd, 1) := by decide +kernel
theorem d_M_isUnder_65 : decode b_M_isUnder 65 = .ok (.baload, 1) := by decide +kernel
theorem d_M_isUnder_66 : decode b_M_isUnder 66 = .ok (.ifCond .eq 17, 3) := by decide +kernel
theorem d_M_isUnder_69 : decode b_M_isUnder 69 = .ok (.aload_n 0, 1) := by decide +kernel
theorem d_M_isUnder_70 : decode b_M_isUnder 70 = .ok (.iload 4, 2) := by decide +kernel
theorem d_M_isUnder_72 : decode b_M_isUnder 72 = .ok (.iload_n 2, 1) := by decide +kernel
theorem d_M_isUnder_73 : decode b_M_isUnder 73 = .ok (.invokevirtual 74, 3) := by decide +kernel
theorem d_M_isUnder_76 : decode b_M_isUnder 76 = .ok (.ifCond .eq 7, 3) := by decide +kernel
theorem d_M_isUnder_79 : decode b_M_isUnder 79 = .ok (.iconst 1, 1) := by decide +kernel
theorem d_M_isUnder_80 : decode b_M_isUnder 80 = .ok (.goto 4, 3) := by decide +kernel
theorem d_M_isUnder_83 : decode b_M_isUnder 83 = .ok (.iconst 0, 1) := by decide +kernel
theorem d_M_isUnder_84 : decode b_M_isUnder 84 = .ok (.istore_n 3, 1) := by decide +kernel
theorem d_M_isUnder_85 : decode b_M_isUnder 85 = .ok (.iinc 4 1, 3) := by decide +kernel
theorem d_M_isUnder_88 : decode b_M_isUnder 88 = .ok (.goto (-47), 3) := by decide +kernel
theorem d_M_isUnder_91 : decode b_M_isUnder 91 = .ok (.iload_n 3, 1) := by decide +kernel
theorem d_M_isUnder_92 : decode b_M_isUnder 92 = .ok (.ireturn, 1) := by decide +kernel
def rm_M_isUnder : Room := { frames := 1, cells := 0, slots := 0, locals := 24 }
def f_M_isUnder_84 (fu : Nat) (k41 : Nat → Int32 → Int32 → Int32 → Int32 → List va_E → Option (Int32 × List va_E)) (v0 : Nat) (v1 : Int32) (v2 : Int32) (v4 : Int32) (s0 : Int32) (w : List va_E) : Option (Int32 × List va_E) := (k41 (v0) (v1) (v2) (s0) ((v4 + (1 : Int32))) w)
def f_M_isUnder_83 (fu : Nat) (k41 : Nat → Int32 → Int32 → Int32 → Int32 → List va_E → Option (Int32 × List va_E)) (v0 : Nat) (v1 : Int32) (v2 : Int32) (v4 : Int32) (w : List va_E) : Option (Int32 × List va_E) := (f_M_isUnder_84 fu k41 (v0) (v1) (v2) (v4) ((0 : Int32)) w)
def f_M_isUnder_79 (fu : Nat) (k41 : Nat → Int32 → Int32 → Int32 → Int32 → List va_E → Option (Int32 × List va_E)) (v0 : Nat) (v1 : Int32) (v2 : Int32) (v4 : Int32) (w : List va_E) : Option (Int32 × List va_E) := (f_M_isUnder_84 fu k41 (v0) (v1) (v2) (v4) ((1 : Int32)) w)
def f_M_isUnder_41 (fu : Nat) : Nat → Nat → Int32 → Int32 → Int32 → Int32 → List va_E → Option (Int32 × List va_E)
  | 0, _, _, _, _, _, _ => none
  | n + 1, v0, v1, v2, v3, v4, w => ((hp_gi w v0 7 4).bind fun x1 => (if x1 ≤ v4 then (if v3 = 0 ∨ v3 = 1 then some (v3, w) else none) else (if v3 = 0 then ((hp_gr w v0 7 10).bind fun q2 => ((hp_rz w q2 (((12 : Int32) * v1) + v4)).bind fun x3 => (if x3 = 0 then (f_M_isUnder_83 fu (f_M_isUnder_41 fu n) (v0) (v1) (v2) (v4) w) else ((hp_is w v0 7).bind fun _ => ((f_M_hasChild fu v0 v4 v2 w).bind fun r4 => (if r4.1 = 0 then (f_M_isUnder_83 fu (f_M_isUnder_41 fu n) (v0) (v1) (v2) (v4) r4.2) else (f_M_isUnder_79 fu (f_M_isUnder_41 fu n) (v0) (v1) (v2) (v4) r4.2))))))) else (f_M_isUnder_79 fu (f_M_isUnder_41 fu n) (v0) (v1) (v2) (v4) w))))
def f_M_isUnder_37 (fu : Nat) (v0 : Nat) (v1 : Int32) (v2 : Int32) (s0 : Int32) (w : List va_E) : Option (Int32 × List va_E) := (f_M_isUnder_41 fu fu (v0) (v1) (v2) (s0) ((0 : Int32)) w)
def f_M_isUnder_32 (fu : Nat) (v0 : Nat) (v1 : Int32) (v2 : Int32) (w : List va_E) : Option (Int32 × List va_E) := (f_M_isUnder_37 fu (v0) (v1) (v2) ((1 : Int32)) w)
def f_M_isUnder_23 (fu : Nat) (v0 : Nat) (v1 : Int32) (v2 : Int32) (w : List va_E) : Option (Int32 × List va_E) := ((hp_is w v0 7).bind fun _ => ((f_M_hasChild fu v0 v1 v2 w).bind fun r1 => (if r1.1 = 0 then (f_M_isUnder_37 fu (v0) (v1) (v2) ((0 : Int32)) r1.2) else (f_M_isUnder_32 fu (v0) (v1) (v2) r1.2))))
def f_M_isUnder (fu : Nat) (v0 : Nat) (v1 : Int32) (v2 : Int32) (w : List va_E) : Option (Int32 × List va_E) := (if v2 < (16 : Int32) then (f_M_isUnder_23 fu (v0) (v1) (v2) w) else ((hp_gr w v0 7 10).bind fun q1 => ((hp_rz w q1 ((((12 : Int32) * v1) + v2) - (16 : Int32))).bind fun x2 => (if x2 = 0 then (f_M_isUnder_23 fu (v0) (v1) (v2) w) else (f_M_isUnder_32 fu (v0) (v1) (v2) w)))))
section
variable {p : Program} {l : Launch} {e : Env} {s : State} {m : MethodId} {args : Array Value} {below : List Frame} {meth : Method} {c : Code} {D : va_G} {ca : Nat → Nat} {A : Nat → Prop} {ad : Nat → Nat}
set_option maxRecDepth 100000 in
set_option maxHeartbeats 4000000 in
theorem v_M_isUnder_84 (K : av_K p s m args meth c D cl8 ca A b_M_isUnder 5 R_M WS) (G : av_G NS tabON A s s.heap) (hr : meth.sig.returnType = some .boolean) (fu : Nat) {r : Int32 × List va_E} (k41 : Nat → Int32 → Int32 → Int32 → Int32 → List va_E → Option (Int32 × List va_E)) (hk41 : ∀ (v0 : Nat) (v1 : Int32) (v2 : Int32) (v3 : Int32) (v4 : Int32) (w : List va_E), k41 v0 v1 v2 v3 v4 w = some r → av_VI p l e rm_M_isUnder s m args below meth c D cl8 A ad ca 5 r 41 [some (.ref v0), some (.int v1), some (.int v2), some (.int v3), some (.int v4)] [] w) (v0 : Nat) (v1 : Int32) (v2 : Int32) (v4 : Int32) (s0 : Int32) (w : List va_E) (h : f_M_isUnder_84 fu k41 v0 v1 v2 v4 s0 w = some r) : av_VI p l e rm_M_isUnder s m args below meth c D cl8 A ad ca 5 r 84 [some (.ref v0), some (.int v1), some (.int v2), none, some (.int v4)] [.int s0] w := by
  unfold f_M_isUnder_84 at h
  refine av_istore_n (L' := [some (.ref v0), some (.int v1), some (.int v2), some (.int s0), some (.int v4)]) K d_M_isUnder_84 rfl (Nat.le_of_ble_eq_true rfl) rfl ?_
  refine av_iinc (v := (v4 + (1 : Int32))) (L' := [some (.ref v0), some (.int v1), some (.int v2), some (.int s0), some (.int (v4 + (1 : Int32)))]) K d_M_isUnder_85 rfl (congrArg (fun z => v4 + z) (show Int32.ofInt 1 = (1 : Int32) by decide)) (Nat.le_of_ble_eq_true rfl) rfl ?_
  refine av_goto (tgt := 41) K d_M_isUnder_88 rfl ?_
  exact hk41 (v0) (v1) (v2) (s0) ((v4 + (1 : Int32))) _ h
set_option maxRecDepth 100000 in
set_option maxHeartbeats 4000000 in
theorem v_M_isUnder_83 (K : av_K p s m args meth c D cl8 ca A b_M_isUnder 5 R_M WS) (G : av_G NS tabON A s s.heap) (hr : meth.sig.returnType = some .boolean) (fu : Nat) {r : Int32 × List va_E} (k41 : Nat → Int32 → Int32 → Int32 → Int32 → List va_E → Option (Int32 × List va_E)) (hk41 : ∀ (v0 : Nat) (v1 : Int32) (v2 : Int32) (v3 : Int32) (v4 : Int32) (w : List va_E), k41 v0 v1 v2 v3 v4 w = some r → av_VI p l e rm_M_isUnder s m args below meth c D cl8 A ad ca 5 r 41 [some (.ref v0), some (.int v1), some (.int v2), some (.int v3), some (.int v4)] [] w) (v0 : Nat) (v1 : Int32) (v2 : Int32) (v4 : Int32) (w : List va_E) (h : f_M_isUnder_83 fu k41 v0 v1 v2 v4 w = some r) : av_VI p l e rm_M_isUnder s m args below meth c D cl8 A ad ca 5 r 83 [some (.ref v0), some (.int v1), some (.int v2), none, some (.int v4)] [] w := by
  unfold f_M_isUnder_83 at h
  refine av_iconst (v := (0 : Int32)) K d_M_isUnder_83 (by decide) ?_
  exact v_M_isUnder_84 K G hr fu k41 hk41 (v0) (v1) (v2) (v4) ((0 : Int32)) _ h
set_option maxRecDepth 100000 in
set_option maxHeartbeats 4000000 in
theorem v_M_isUnder_79 (K : av_K p s m args meth c D cl8 ca A b_M_isUnder 5 R_M WS) (G : av_G NS tabON A s s.heap) (hr : meth.sig.returnType = some .boolean) (fu : Nat) {r : Int32 × List va_E} (k41 : Nat → Int32 → Int32 → Int32 → Int32 → List va_E → Option (Int32 × List va_E)) (hk41 : ∀ (v0 : Nat) (v1 : Int32) (v2 : Int32) (v3 : Int32) (v4 : Int32) (w : List va_E), k41 v0 v1 v2 v3 v4 w = some r → av_VI p l e rm_M_isUnder s m args below meth c D cl8 A ad ca 5 r 41 [some (.ref v0), some (.int v1), some (.int v2), some (.int v3), some (.int v4)] [] w) (v0 : Nat) (v1 : Int32) (v2 : Int32) (v4 : Int32) (w : List va_E) (h : f_M_isUnder_79 fu k41 v0 v1 v2 v4 w = some r) : av_VI p l e rm_M_isUnder s m args below meth c D cl8 A ad ca 5 r 79 [some (.ref v0), some (.int v1), some (.int v2), none, some (.int v4)] [] w := by
  unfold f_M_isUnder_79 at h
  refine av_iconst (v := (1 : Int32)) K d_M_isUnder_79 (by decide) ?_
  refine av_goto (tgt := 84) K d_M_isUnder_80 rfl ?_
  exact v_M_isUnder_84 K G hr fu k41 hk41 (v0) (v1) (v2) (v4) ((1 : Int32)) _ h
set_option maxRecDepth 100000 in
set_option maxHeartbeats 4000000 in
theorem v_M_isUnder_41 (K : av_K p s m args meth c D cl8 ca A b_M_isUnder 5 R_M WS) (G : av_G NS tabON A s s.heap) (hr : meth.sig.returnType = some .boolean) (fu : Nat) {r : Int32 × List va_E} : ∀ (n : Nat) (v0 : Nat) (v1 : Int32) (v2 : Int32) (v3 : Int32) (v4 : Int32) (w : List va_E), f_M_isUnder_41 fu n v0 v1 v2 v3 v4 w = some r → av_VI p l e rm_M_isUnder s m args below meth c D cl8 A ad ca 5 r 41 [some (.ref v0), some (.int v1), some (.int v2), some (.int v3), some (.int v4)] [] w := by
  intro n
  induction n with
  | zero => intro _ _ _ _ _ _ h; cases h
  | succ n ih =>
    intro v0 v1 v2 v3 v4 w h
    unfold f_M_isUnder_41 at h
    refine av_iload K d_M_isUnder_41 rfl ?_
    refine av_aload_n K d_M_isUnder_43 rfl rfl ?_
    obtain ⟨x1, ex1, h⟩ := hp_bd h
    refine hv_gi K fl_M_64 d_M_isUnder_44 ex1 ?_
    refine av_icmp_ge (tgt := 91) K d_M_isUnder_47 rfl (fun hc => ?_) (fun hc => ?_)
    · rw [if_pos hc] at h
      refine av_iload_n K d_M_isUnder_91 rfl rfl ?_
      obtain ⟨hz, h⟩ := hp_if h
      obtain rfl := Option.some.inj h
      exact av_zreturn K hr (hp_nz hz) d_M_isUnder_92 rfl
    · rw [if_neg hc] at h
      refine av_iload_n K d_M_isUnder_50 rfl rfl ?_
      refine av_if_ne (tgt := 79) K d_M_isUnder_51 rfl (fun hc => ?_) (fun hc => ?_)
      · rw [if_neg hc] at h
        refine hv_fg (L' := [some (.ref v0), some (.int v1), some (.int v2), none, some (.int v4)]) [3] rfl ?_
        exact v_M_isUnder_79 K G hr fu (f_M_isUnder_41 fu n) ih (v0) (v1) (v2) (v4) _ h
      · rw [if_pos hc] at h
        refine av_aload_n K d_M_isUnder_54 rfl rfl ?_
        obtain ⟨q2, eq2, h⟩ := hp_bd h
        refine hv_gr K fl_M_32 d_M_isUnder_55 eq2 ?_
        refine av_bipush (v := (12 : Int32)) K d_M_isUnder_58 (by decide) ?_
        refine av_iload_n K d_M_isUnder_60 rfl rfl ?_
        refine av_imul K d_M_isUnder_61 ?_
        refine av_iload K d_M_isUnder_62 rfl ?_
        refine av_iadd K d_M_isUnder_64 ?_
        obtain ⟨x3, ex3, h⟩ := hp_bd h
        refine hv_rz K d_M_isUnder_65 ex3 ?_
        refine av_if_eq (tgt := 83) K d_M_isUnder_66 rfl (fun hc => ?_) (fun hc => ?_)
        · rw [if_pos hc] at h
          refine hv_fg (L' := [some (.ref v0), some (.int v1), some (.int v2), none, some (.int v4)]) [3] rfl ?_
          exact v_M_isUnder_83 K G hr fu (f_M_isUnder_41 fu n) ih (v0) (v1) (v2) (v4) _ h
        · rw [if_neg hc] at h
          refine av_aload_n K d_M_isUnder_69 rfl rfl ?_
          refine av_iload K d_M_isUnder_70 rfl ?_
          refine av_iload_n K d_M_isUnder_72 rfl rfl ?_
          obtain ⟨_, eo73, h⟩ := hp_bd h
          obtain ⟨r4, er4, h⟩ := hp_bd h
          obtain ⟨fs73, ho73⟩ := hp_is_of eo73
          refine av_cVi K G (c_M_hasChild (tab := tabON) er4) (cwV 2 K.2.2.2.2.1 (gV ml_M_74 im_M_hasChild se_M_hasChild in_M co_M_hasChild) rfl rfl rfl cd_M_hasChild ⟨Nat.le_of_ble_eq_true rfl, Nat.le_of_ble_eq_true rfl⟩) rfl ho73 rfl rfl (Nat.le_of_ble_eq_true rfl) d_M_isUnder_73 ⟨Nat.zero_le _, Nat.zero_le _⟩ (fun a9 u9 h9 => ?_)
          obtain ⟨rfl, rfl⟩ : a9 = r4.1 ∧ u9 = r4.2 := ⟨congrArg Prod.fst h9, congrArg Prod.snd h9⟩
          refine av_if_eq (tgt := 83) K d_M_isUnder_76 rfl (fun hc => ?_) (fun hc => ?_)
          · rw [if_pos hc] at h
            refine hv_fg (L' := [some (.ref v0), some (.int v1), some (.int v2), none, some (.int v4)]) [3] rfl ?_
            exact v_M_isUnder_83 K G hr fu (f_M_isUnder_41 fu n) ih (v0) (v1) (v2) (v4) _ h
          · rw [if_neg hc] at h
            refine hv_fg (L' := [some (.ref v0), some (.int v1), some (.int v2), none, some (.int v4)]) [3] rfl ?_
            exact v_M_isUnder_79 K G hr fu (f_M_isUnder_41 fu n) ih (v0) (v1) (v2) (v4) _ h
set_option maxRecDepth 100000 in
set_option maxHeartbeats 4000000 in
theorem v_M_isUnder_37 (K : av_K p s m args meth c D cl8 ca A b_M_isUnder 5 R_M WS) (G : av_G NS tabON A s s.heap) (hr : meth.sig.returnType = some .boolean) (fu : Nat) {r : Int32 × List va_E} (v0 : Nat) (v1 : Int32) (v2 : Int32) (s0 : Int32) (w : List va_E) (h : f_M_isUnder_37 fu v0 v1 v2 s0 w = some r) : av_VI p l e rm_M_isUnder s m args below meth c D cl8 A ad ca 5 r 37 [some (.ref v0), some (.int v1), some (.int v2), none, none] [.int s0] w := by
  unfold f_M_isUnder_37 at h
  refine av_istore_n (L' := [some (.ref v0), some (.int v1), some (.int v2), some (.int s0), none]) K d_M_isUnder_37 rfl (Nat.le_of_ble_eq_true rfl) rfl ?_
  refine av_iconst (v := (0 : Int32)) K d_M_isUnder_38 (by decide) ?_
  refine av_istore (L' := [some (.ref v0), some (.int v1), some (.int v2), some (.int s0), some (.int (0 : Int32))]) K d_M_isUnder_39 (Nat.le_of_ble_eq_true rfl) rfl ?_
  exact v_M_isUnder_41 K G hr fu fu (v0) (v1) (v2) (s0) ((0 : Int32)) _ h
set_option maxRecDepth 100000 in
set_option maxHeartbeats 4000000 in
theorem v_M_isUnder_32 (K : av_K p s m args meth c D cl8 ca A b_M_isUnder 5 R_M WS) (G : av_G NS tabON A s s.heap) (hr : meth.sig.returnType = some .boolean) (fu : Nat) {r : Int32 × List va_E} (v0 : Nat) (v1 : Int32) (v2 : Int32) (w : List va_E) (h : f_M_isUnder_32 fu v0 v1 v2 w = some r) : av_VI p l e rm_M_isUnder s m args below meth c D cl8 A ad ca 5 r 32 [some (.ref v0), some (.int v1), some (.int v2), none, none] [] w := by
  unfold f_M_isUnder_32 at h
  refine av_iconst (v := (1 : Int32)) K d_M_isUnder_32 (by decide) ?_
  refine av_goto (tgt := 37) K d_M_isUnder_33 rfl ?_
  exact v_M_isUnder_37 K G hr fu (v0) (v1) (v2) ((1 : Int32)) _ h
set_option maxRecDepth 100000 in
set_option maxHeartbeats 4000000 in
theorem v_M_isUnder_23 (K : av_K p s m args meth c D cl8 ca A b_M_isUnder 5 R_M WS) (G : av_G NS tabON A s s.heap) (hr : meth.sig.returnType = some .boolean) (fu : Nat) {r : Int32 × List va_E} (v0 : Nat) (v1 : Int32) (v2 : Int32) (w : List va_E) (h : f_M_isUnder_23 fu v0 v1 v2 w = some r) : av_VI p l e rm_M_isUnder s m args below meth c D cl8 A ad ca 5 r 23 [some (.ref v0), some (.int v1), some (.int v2), none, none] [] w := by
  unfold f_M_isUnder_23 at h
  refine av_aload_n K d_M_isUnder_23 rfl rfl ?_
  refine av_iload_n K d_M_isUnder_24 rfl rfl ?_
  refine av_iload_n K d_M_isUnder_25 rfl rfl ?_
  obtain ⟨_, eo26, h⟩ := hp_bd h
  obtain ⟨r1, er1, h⟩ := hp_bd h
  obtain ⟨fs26, ho26⟩ := hp_is_of eo26
  refine av_cVi K G (c_M_hasChild (tab := tabON) er1) (cwV 2 K.2.2.2.2.1 (gV ml_M_74 im_M_hasChild se_M_hasChild in_M co_M_hasChild) rfl rfl rfl cd_M_hasChild ⟨Nat.le_of_ble_eq_true rfl, Nat.le_of_ble_eq_true rfl⟩) rfl ho26 rfl rfl (Nat.le_of_ble_eq_true rfl) d_M_isUnder_26 ⟨Nat.zero_le _, Nat.zero_le _⟩ (fun a9 u9 h9 => ?_)
  obtain ⟨rfl, rfl⟩ : a9 = r1.1 ∧ u9 = r1.2 := ⟨congrArg Prod.fst h9, congrArg Prod.snd h9⟩
  refine av_if_eq (tgt := 36) K d_M_isUnder_29 rfl (fun hc => ?_) (fun hc => ?_)
  · rw [if_pos hc] at h
    refine av_iconst (v := (0 : Int32)) K d_M_isUnder_36 (by decide) ?_
    exact v_M_isUnder_37 K G hr fu (v0) (v1) (v2) ((0 : Int32)) _ h
  · rw [if_neg hc] at h
    exact v_M_isUnder_32 K G hr fu (v0) (v1) (v2) _ h
set_option maxRecDepth 100000 in
set_option maxHeartbeats 4000000 in
theorem v_M_isUnder (K : av_K p s m args meth c D cl8 ca A b_M_isUnder 5 R_M WS) (G : av_G NS tabON A s s.heap) (hr : meth.sig.returnType = some .boolean) (fu : Nat) {r : Int32 × List va_E} (v0 : Nat) (v1 : Int32) (v2 : Int32) (w : List va_E) (h : f_M_isUnder fu v0 v1 v2 w = some r) : av_VI p l e rm_M_isUnder s m args below meth c D cl8 A ad ca 5 r 0 [some (.ref v0), some (.int v1), some (.int v2), none, none] [] w := by
  unfold f_M_isUnder at h
  refine av_iload_n K d_M_isUnder_0 rfl rfl ?_
  refine av_bipush (v := (16 : Int32)) K d_M_isUnder_1 (by decide) ?_
  refine av_icmp_lt (tgt := 23) K d_M_isUnder_3 rfl (fun hc => ?_) (fun hc => ?_)
  · rw [if_pos hc] at h
    exact v_M_isUnder_23 K G hr fu (v0) (v1) (v2) _ h
  · rw [if_neg hc] at h
    refine av_aload_n K d_M_isUnder_6 rfl rfl ?_
    obtain ⟨q1, eq1, h⟩ := hp_bd h
    refine hv_gr K fl_M_32 d_M_isUnder_7 eq1 ?_
    refine av_bipush (v := (12 : Int32)) K d_M_isUnder_10 (by decide) ?_
    refine av_iload_n K d_M_isUnder_12 rfl rfl ?_
    refine av_imul K d_M_isUnder_13 ?_
    refine av_iload_n K d_M_isUnder_14 rfl rfl ?_
    refine av_iadd K d_M_isUnder_15 ?_
    refine av_bipush (v := (16 : Int32)) K d_M_isUnder_16 (by decide) ?_
    refine av_isub K d_M_isUnder_18 ?_
    obtain ⟨x2, ex2, h⟩ := hp_bd h
    refine hv_rz K d_M_isUnder_19 ex2 ?_
    refine av_if_ne (tgt := 32) K d_M_isUnder_20 rfl (fun hc => ?_) (fun hc => ?_)
    · rw [if_neg hc] at h
      exact v_M_isUnder_32 K G hr fu (v0) (v1) (v2) _ h
    · rw [if_pos hc] at h
      exact v_M_isUnder_23 K G hr fu (v0) (v1) (v2) _ h
end
set_option maxRecDepth 100000 in
theorem c_M_isUnder {l : Launch} {D : va_G} {ca : Nat → Nat} {tab : Nat → Int64} {fu : Nat} {v0 : Nat} {v1 : Int32} {v2 : Int32} {w : List va_E} {r : Int32 × List va_E} (h : f_M_isUnder fu v0 v1 v2 w = some r) : av_Ci l D cl8 ca NS tabON y_M_isUnder w_M_isUnder rm_M_isUnder [.ref v0, .int v1, .int v2] w (fun v u => (v, u) = r) :=
  av_inI (cc := b_M_isUnder) (nL := 5) (by decide +kernel) rfl (Nat.le_of_ble_eq_true rfl) (fun p e s m args below meth c A ad K G hr => v_M_isUnder K G hr fu v0 v1 v2 w h)

-- FaultTreeDeskModel.modules()I
theorem d_M_modules_0 : decode b_M_modules 0 = .ok (.aload_n 0, 1) := by decide +kernel
theorem d_M_modules_1 : decode b_M_modules 1 = .ok (.aload_n 0, 1) := by decide +kernel
theorem d_M_modules_2 : decode b_M_modules 2 = .ok (.getfield 28, 3) := by decide +kernel
theorem d_M_modules_5 : decode b_M_modules 5 = .ok (.ifCond .ge 7, 3) := by decide +kernel
theorem d_M_modules_8 : decode b_M_modules 8 = .ok (.iconst 1, 1) := by decide +kernel
theorem d_M_modules_9 : decode b_M_modules 9 = .ok (.goto 4, 3) := by decide +kernel
theorem d_M_modules_12 : decode b_M_modules 12 = .ok (.iconst 0, 1) := by decide +kernel
theorem d_M_modules_13 : decode b_M_modules 13 = .ok (.putfield 58, 3) := by decide +kernel
theorem d_M_modules_16 : decode b_M_modules 16 = .ok (.aload_n 0, 1) := by decide +kernel
theorem d_M_modules_17 : decode b_M_modules 17 = .ok (.getfield 58, 3) := by decide +kernel
theorem d_M_modules_20 : decode b_M_modules 20 = .ok (.ifCond .le 5, 3) := by decide +kernel
theorem d_M_modules_23 : decode b_M_modules 23 = .ok (.iconst 0, 1) := by decide +kernel
theorem d_M_modules_24 : decode b_M_modules 24 = .ok (.ireturn, 1) := by decide +kernel
theorem d_M_modules_25 : decode b_M_modules 25 = .ok (.aload_n 0, 1) := by decide +kernel
theorem d_M_modules_26 : decode b_M_modules 26 = .ok (.invokevirtual 78, 3) := by decide +kernel
theorem d_M_modules_29 : decode b_M_modules 29 = .ok (.iconst 0, 1) := by decide +kernel
theorem d_M_modules_30 : decode b_M_modules 30 = .ok (.istore_n 1, 1) := by decide +kernel
theorem d_M_modules_31 : decode b_M_modules 31 = .ok (.iconst 0, 1) := by decide +kernel
theorem d_M_modules_32 : decode b_M_modules 32 = .ok (.istore_n 2, 1) := by decide +kernel
theorem d_M_modules_33 : decode b_M_modules 33 = .ok (.iload_n 2, 1) := by decide +kernel
theorem d_M_modules_34 : decode b_M_modules 34 = .ok (.aload_n 0, 1) := by decide +kernel
theorem d_M_modules_35 : decode b_M_modules 35 = .ok (.getfield 64, 3) := by decide +kernel
theorem d_M_modules_38 : decode b_M_modules 38 = .ok (.if_icmp .ge 186, 3) := by decide +kernel
theorem d_M_modules_41 : decode b_M_modules 41 = .ok (.iload_n 2, 1) := by decide +kernel
theorem d_M_modules_42 : decode b_M_modules 42 = .ok (.aload_n 0, 1) := by decide +kernel
theorem d_M_modules_43 : decode b_M_modules 43 = .ok (.getfield 28, 3) := by decide +kernel
theorem d_M_modules_46 : decode b_M_modules 46 = .ok (.if_icmp .eq 20, 3) := by decide +kernel
theorem d_M_modules_49 : decode b_M_modules 49 = .ok (.aload_n 0, 1) := by decide +kernel
theorem d_M_modules_50 : decode b_M_modules 50 = .ok (.getfield 32, 3) := by decide +kernel
theorem d_M_modules_53 : decode b_M_modules 53 = .ok (.bipush 12, 2) := by decide +kernel
theorem d_M_modules_55 : decode b_M_modules 55 = .ok (.aload_n 0, 1) := by decide +kernel
theorem d_M_modules_56 : decode b_M_modules 56 = .ok (.getfield 28, 3) := by decide +kernel
theorem d_M_modules_59 : decode b_M_modules 59 = .ok (.imul, 1) := by decide +kernel
theorem d_M_modules_60 : decode b_M_modules 60 = .ok (.iload_n 2, 1) := by decide +kernel
theorem d_M_modules_61 : decode b_M_modules 61 = .ok (.iadd, 1) := by decide +kernel
theorem d_M_modules_62 : decode b_M_modules 62 = .ok (.baload, 1) := by decide +kernel
theorem d_M_modules_63 : decode b_M_modules 63 = .ok (.ifCond .eq 7, 3) := by decide +kernel
theorem d_M_modules_66 : decode b_M_modules 66 = .ok (.iconst 1, 1) := by decide +kernel
theorem d_M_modules_67 : decode b_M_modules 67 = .ok (.goto 4, 3) := by decide +kernel
theorem d_M_modules_70 : decode b_M_modules 70 = .ok (.iconst 0, 1) := by decide +kernel
theorem d_M_modules_71 : decode b_M_modules 71 = .ok (.istore_n 3, 1) := by decide +kernel
theorem d_M_modules_72 : decode b_M_modules 72 = .ok (.iconst 0, 1) := by decide +kernel
theorem d_M_modules_73 : decode b_M_modules 73 = .ok (.istore 4, 2) := by decide +kernel
theorem d_M_modules_75 : decode b_M_modules 75 = .ok (.iload 4, 2) := by decide +kernel
theorem d_M_modules_77 : decode b_M_modules 77 = .ok (.aload_n 0, 1) := by decide +kernel
theorem d_M_modules_78 : decode b_M_modules 78 = .ok (.getfield 64, 3) := by decide +kernel
theorem d_M_modules_81 : decode b_M_modules 81 = .ok (.if_icmp .ge 123, 3) := by decide +kernel
theorem d_M_modules_84 : decode b_M_modules 84 = .ok (.iload 4, 2) := by decide +kernel
theorem d_M_modules_86 : decode b_M_modules 86 = .ok (.aload_n 0, 1) := by decide +kernel
theorem d_M_modules_87 : decode b_M_modules 87 = .ok (.getfield 28, 3) := by decide +kernel
theorem d_M_modules_90 : decode b_M_modules 90 = .ok (.if_icmp .eq 21, 3) := by decide +kernel
theorem d_M_modules_93 : decode b_M_modules 93 = .ok (.aload_n 0, 1) := by decide +kernel
theorem d_M_modules_94 : decode b_M_modules 94 = .ok (.getfield 32, 3) := by decide +kernel
theorem d_M_modules_97 : decode b_M_modules 97 = .ok (.bipush 12, 2) := by decide +kernel
theorem d_M_modules_99 : decode b_M_modules 99 = .ok (.aload_n 0, 1) := by decide +kernel
theorem d_M_modules_100 : decode b_M_modules 100 = .ok (.getfield 28, 3) := by decide +kernel
theorem d_M_modules_103 : decode b_M_modules 103 = .ok (.imul, 1) := by decide +kernel
theorem d_M_modules_104 : decode b_M_modules 104 = .ok (.iload 4, 2) := by decide +kernel
theorem d_M_modules_106 : decode b_M_modules 106 = .ok (.iadd, 1) := by decide +kernel
theorem d_M_modules_107 : decode b_M_modules 107 = .ok (.baload, 1) := by decide +kernel
theorem d_M_modules_108 : decode b_M_modules 108 = .ok (.ifCond .eq 28, 3) := by decide +kernel
theorem d_M_modules_111 : decode b_M_modules 111 = .ok (.iload 4, 2) := by decide +kernel
theorem d_M_modules_113 : decode b_M_modules 113 = .ok (.iload_n 2, 1) := by decide +kernel
theorem d_M_modules_114 : decode b_M_modules 114 = .ok (.if_icmp .eq 22, 3) := by decide +kernel
theorem d_M_modules_117 : decode b_M_modules 117 = .ok (.aload_n 0, 1) := by decide +kernel
theorem d_M_modules_118 : decode b_M_modules 118 = .ok (.getfield 32, 3) := by decide +kernel
theorem d_M_modules_121 : decode b_M_modules 121 = .ok (.bipush 12, 2) := by decide +kernel
theorem d_M_modules_123 : decode b_M_modules 123 = .ok (.iload_n 2, 1) := by decide +kernel
theorem d_M_modules_124 : decode b_M_modules 124 = .ok (.imul, 1) := by decide +kernel
theorem d_M_modules_125 : decode b_M_modules 125 = .ok (.iload 4, 2) := by decide +kernel
theorem d_M_modules_127 : decode b_M_modules 127 = .ok (.iadd, 1) := by decide +kernel
theorem d_M_modules_128 : decode b_M_modules 128 = .ok (.baload, 1) := by decide +kernel
theorem d_M_modules_129 : decode b_M_modules 129 = .ok (.ifCond .ne 7, 3) := by decide +kernel
theorem d_M_modules_132 : decode b_M_modules 132 = .ok (.iconst 1, 1) := by decide +kernel
theorem d_M_modules_133 : decode b_M_modules 133 = .ok (.goto 4, 3) := by decide +kernel
theorem d_M_modules_136 : decode b_M_modules 136 = .ok (.iconst 0, 1) := by decide +kernel
theorem d_M_modules_137 : decode b_M_modules 137 = .ok (.istore 5, 2) := by decide +kernel
theorem d_M_modules_139 : decode b_M_modules 139 = .ok (.iconst 4, 1) := by decide +kernel
theorem d_M_modules_140 : decode b_M_modules 140 = .ok (.iload 4, 2) := by decide +kernel
theorem d_M_modules_142 : decode b_M_modules 142 = .ok (.imul, 1) := by decide +kernel
theorem d_M_modules_143 : decode b_M_modules 143 = .ok (.istore 6, 2) := by decide +kernel
theorem d_M_modules_145 : decode b_M_modules 145 = .ok (.iload 6, 2) := by decide +kernel
theorem d_M_modules_147 : decode b_M_modules 147 = .ok (.iconst 4, 1) := by decide +kernel
theorem d_M_modules_148 : decode b_M_modules 148 = .ok (.iload 4, 2) := by decide +kernel
theorem d_M_modules_150 : decode b_M_modules 150 = .ok (.imul, 1) := by decide +kernel
theorem d_M_modules_151 : decode b_M_modules 151 = .ok (.aload_n 0, 1) := by decide +kernel
theorem d_M_modules_152 : decode b_M_modules 152 = .ok (.getfield 22, 3) := by decide +kernel
theorem d_M_modules_155 : decode b_M_modules 155 = .ok (.iload 4, 2) := by decide +kernel
theorem d_M_modules_157 : decode b_M_modules 157 = .ok (.iaload, 1) := by decide +kernel
theorem d_M_modules_158 : decode b_M_modules 158 = .ok (.iadd, 1) := by decide +kernel
theorem d_M_modules_159 : decode b_M_modules 159 = .ok (.if_icmp .ge 39, 3) := by decide +kernel
theorem d_M_modules_162 : decode b_M_modules 162 = .ok (.iload_n 3, 1) := by decide +kernel
theorem d_M_modules_163 : decode b_M_modules 163 = .ok (.ifCond .eq 27, 3) := by decide +kernel
theorem d_M_modules_166 : decode b_M_modules 166 = .ok (.iload 5, 2) := by decide +kernel
theorem d_M_modules_168 : decode b_M_modules 168 = .ok (.ifCond .eq 18, 3) := by decide +kernel
theorem d_M_modules_171 : decode b_M_modules 171 = .ok (.aload_n 0, 1) := by decide +kernel
theorem d_M_modules_172 : decode b_M_modules 172 = .ok (.iload_n 2, 1) := by decide +kernel
theorem d_M_modules_173 : decode b_M_modules 173 = .ok (.aload_n 0, 1) := by decide +kernel
theorem d_M_modules_174 : decode b_M_modules 174 = .ok (.getfield 25, 3) := by decide +kernel
theorem d_M_modules_177 : decode b_M_modules 177 = .ok (.iload 6, 2) := by decide +kernel
theorem d_M_modules_179 : decode b_M_modules 179 = .ok (.iaload, 1) := by decide +kernel
theorem d_M_modules_180 : decode b_M_modules 180 = .ok (.invokevirtual 146, 3) := by decide +kernel
theorem d_M_modules_183 : decode b_M_modules 183 = .ok (.ifCond .ne 7, 3) := by decide +kernel
theorem d_M_modules_186 : decode b_M_modules 186 = .ok (.iconst 1, 1) := by decide +kernel
theorem d_M_modules_187 : decode b_M_modules 187 = .ok (.goto 4, 3) := by decide +kernel
theorem d_M_modules_190 : decode b_M_modules 190 = .ok (.iconst 0, 1) := by decide +kernel
theorem d_M_modules_191 : decode b_M_modules 191 = .ok (.istore_n 3, 1) := by decide +kernel
theorem d_M_modules_192 : decode b_M_modules 192 = .ok (.iinc 6 1, 3) := by decide +kernel
theorem d_M_modules_195 : decode b_M_modules 195 = .ok (.goto (-50), 3) := by decide +kernel
theorem d_M_modules_198 : decode b_M_modules 198 = .ok (.iinc 4 1, 3) := by decide +kernel
theorem d_M_modules_201 : decode b_M_modules 201 = .ok (.goto (-126), 3) := by decide +kernel
theorem d_M_modules_204 : decode b_M_modules 204 = .ok (.iload_n 1, 1) := by decide +kernel
theorem d_M_modules_205 : decode b_M_modules 205 = .ok (.iload_n 3, 1) := by decide +kernel
theorem d_M_modules_206 : decode b_M_modules 206 = .ok (.ifCond .eq 9, 3) := by decide +kernel
theorem d_M_modules_209 : decode b_M_modules 209 = .ok (.iconst 1, 1) := by decide +kernel
theorem d_M_modules_210 : decode b_M_modules 210 = .ok (.iload_n 2, 1) := by decide +kernel
theorem d_M_modules_211 : decode b_M_modules 211 = .ok (.ishl, 1) := by decide +kernel
theorem d_M_modules_212 : decode b_M_modules 212 = .ok (.goto 4, 3) := by decide +kernel
theorem d_M_modules_215 : decode b_M_modules 215 = .ok (.iconst 0, 1) := by decide +kernel
theorem d_M_modules_216 : decode b_M_modules 216 = .ok (.ior, 1) := by decide +kernel
theorem d_M_modules_217 : decode b_M_modules 217 = .ok (.istore_n 1, 1) := by decide +kernel
theorem d_M_modules_218 : decode b_M_modules 218 = .ok (.iinc 2 1, 3) := by decide +kernel
theorem d_M_modules_221 : decode b_M_modules 221 = .ok (.goto (-188), 3) := by decide +kernel
theorem d_M_modules_224 : decode b_M_modules 224 = .ok (.iload_n 1, 1) := by decide +kernel
theorem d_M_modules_225 : decode b_M_modules 225 = .ok (.ireturn, 1) := by decide +kernel
def rm_M_modules : Room := { frames := 2, cells := 0, slots := 0, locals := 48 }
def f_M_modules_191 (fu : Nat) (k33 : Nat → Int32 → Int32 → List va_E → Option (Int32 × List va_E)) (k75 : Nat → Int32 → Int32 → Int32 → Int32 → List va_E → Option (Int32 × List va_E)) (k145 : Nat → Int32 → Int32 → Int32 → Int32 → Int32 → Int32 → List va_E → Option (Int32 × List va_E)) (v0 : Nat) (v1 : Int32) (v2 : Int32) (v4 : Int32) (v5 : Int32) (v6 : Int32) (s0 : Int32) (w : List va_E) : Option (Int32 × List va_E) := (k145 (v0) (v1) (v2) (s0) (v4) (v5) ((v6 + (1 : Int32))) w)
def f_M_modules_186 (fu : Nat) (k33 : Nat → Int32 → Int32 → List va_E → Option (Int32 × List va_E)) (k75 : Nat → Int32 → Int32 → Int32 → Int32 → List va_E → Option (Int32 × List va_E)) (k145 : Nat → Int32 → Int32 → Int32 → Int32 → Int32 → Int32 → List va_E → Option (Int32 × List va_E)) (v0 : Nat) (v1 : Int32) (v2 : Int32) (v4 : Int32) (v5 : Int32) (v6 : Int32) (w : List va_E) : Option (Int32 × List va_E) := (f_M_modules_191 fu k33 k75 k145 (v0) (v1) (v2) (v4) (v5) (v6) ((1 : Int32)) w)
def f_M_modules_190 (fu : Nat) (k33 : Nat → Int32 → Int32 → List va_E → Option (Int32 × List va_E)) (k75 : Nat → Int32 → Int32 → Int32 → Int32 → List va_E → Option (Int32 × List va_E)) (k145 : Nat → Int32 → Int32 → Int32 → Int32 → Int32 → Int32 → List va_E → Option (Int32 × List va_E)) (v0 : Nat) (v1 : Int32) (v2 : Int32) (v4 : Int32) (v5 : Int32) (v6 : Int32) (w : List va_E) : Option (Int32 × List va_E) := (f_M_modules_191 fu k33 k75 k145 (v0) (v1) (v2) (v4) (v5) (v6) ((0 : Int32)) w)
def f_M_modules_145 (fu : Nat) (k33 : Nat → Int32 → Int32 → List va_E → Option (Int32 × List va_E)) (k75 : Nat → Int32 → Int32 → Int32 → Int32 → List va_E → Option (Int32 × List va_E)) : Nat → Nat → Int32 → Int32 → Int32 → Int32 → Int32 → Int32 → List va_E → Option (Int32 × List va_E)
  | 0, _, _, _, _, _, _, _, _ => none
  | n + 1, v0, v1, v2, v3, v4, v5, v6, w => ((hp_gr w v0 7 7).bind fun q1 => ((hp_ri w q1 v4).bind fun x2 => (if (((4 : Int32) * v4) + x2) ≤ v6 then (k75 (v0) (v1) (v2) (v3) ((v4 + (1 : Int32))) w) else (if v3 = 0 then (f_M_modules_190 fu k33 k75 (f_M_modules_145 fu k33 k75 n) (v0) (v1) (v2) (v4) (v5) (v6) w) else (if v5 = 0 then (f_M_modules_186 fu k33 k75 (f_M_modules_145 fu k33 k75 n) (v0) (v1) (v2) (v4) (v5) (v6) w) else ((hp_gr w v0 7 8).bind fun q3 => ((hp_ri w q3 v6).bind fun x4 => ((hp_is w v0 7).bind fun _ => ((f_M_isUnder fu v0 v2 x4 w).bind fun r5 => (if r5.1 = 0 then (f_M_modules_186 fu k33 k75 (f_M_modules_145 fu k33 k75 n) (v0) (v1) (v2) (v4) (v5) (v6) r5.2) else (f_M_modules_190 fu k33 k75 (f_M_modules_145 fu k33 k75 n) (v0) (v1) (v2) (v4) (v5) (v6) r5.2)))))))))))
def f_M_modules_137 (fu : Nat) (k33 : Nat → Int32 → Int32 → List va_E → Option (Int32 × List va_E)) (k75 : Nat → Int32 → Int32 → Int32 → Int32 → List va_E → Option (Int32 × List va_E)) (v0 : Nat) (v1 : Int32) (v2 : Int32) (v3 : Int32) (v4 : Int32) (s0 : Int32) (w : List va_E) : Option (Int32 × List va_E) := (f_M_modules_145 fu k33 k75 fu (v0) (v1) (v2) (v3) (v4) (s0) (((4 : Int32) * v4)) w)
def f_M_modules_136 (fu : Nat) (k33 : Nat → Int32 → Int32 → List va_E → Option (Int32 × List va_E)) (k75 : Nat → Int32 → Int32 → Int32 → Int32 → List va_E → Option (Int32 × List va_E)) (v0 : Nat) (v1 : Int32) (v2 : Int32) (v3 : Int32) (v4 : Int32) (w : List va_E) : Option (Int32 × List va_E) := (f_M_modules_137 fu k33 k75 (v0) (v1) (v2) (v3) (v4) ((0 : Int32)) w)
def f_M_modules_216 (fu : Nat) (k33 : Nat → Int32 → Int32 → List va_E → Option (Int32 × List va_E)) (v0 : Nat) (v2 : Int32) (s0 : Int32) (s1 : Int32) (w : List va_E) : Option (Int32 × List va_E) := (k33 (v0) ((s0 ||| s1)) ((v2 + (1 : Int32))) w)
def f_M_modules_111 (fu : Nat) (k33 : Nat → Int32 → Int32 → List va_E → Option (Int32 × List va_E)) (k75 : Nat → Int32 → Int32 → Int32 → Int32 → List va_E → Option (Int32 × List va_E)) (v0 : Nat) (v1 : Int32) (v2 : Int32) (v3 : Int32) (v4 : Int32) (w : List va_E) : Option (Int32 × List va_E) := (if v4 = v2 then (f_M_modules_136 fu k33 k75 (v0) (v1) (v2) (v3) (v4) w) else ((hp_gr w v0 7 10).bind fun q1 => ((hp_rz w q1 (((12 : Int32) * v2) + v4)).bind fun x2 => (if x2 = 0 then (f_M_modules_137 fu k33 k75 (v0) (v1) (v2) (v3) (v4) ((1 : Int32)) w) else (f_M_modules_136 fu k33 k75 (v0) (v1) (v2) (v3) (v4) w)))))
def f_M_modules_75 (fu : Nat) (k33 : Nat → Int32 → Int32 → List va_E → Option (Int32 × List va_E)) : Nat → Nat → Int32 → Int32 → Int32 → Int32 → List va_E → Option (Int32 × List va_E)
  | 0, _, _, _, _, _, _ => none
  | n + 1, v0, v1, v2, v3, v4, w => ((hp_gi w v0 7 4).bind fun x1 => (if x1 ≤ v4 then (if v3 = 0 then (f_M_modules_216 fu k33 (v0) (v2) (v1) ((0 : Int32)) w) else (f_M_modules_216 fu k33 (v0) (v2) (v1) (((1 : Int32) <<< (v2 &&& 31))) w)) else ((hp_gi w v0 7 9).bind fun x2 => (if v4 = x2 then (f_M_modules_111 fu k33 (f_M_modules_75 fu k33 n) (v0) (v1) (v2) (v3) (v4) w) else ((hp_gr w v0 7 10).bind fun q3 => ((hp_gi w v0 7 9).bind fun x4 => ((hp_rz w q3 (((12 : Int32) * x4) + v4)).bind fun x5 => (if x5 = 0 then (f_M_modules_136 fu k33 (f_M_modules_75 fu k33 n) (v0) (v1) (v2) (v3) (v4) w) else (f_M_modules_111 fu k33 (f_M_modules_75 fu k33 n) (v0) (v1) (v2) (v3) (v4) w)))))))))
def f_M_modules_71 (fu : Nat) (k33 : Nat → Int32 → Int32 → List va_E → Option (Int32 × List va_E)) (v0 : Nat) (v1 : Int32) (v2 : Int32) (s0 : Int32) (w : List va_E) : Option (Int32 × List va_E) := (f_M_modules_75 fu k33 fu (v0) (v1) (v2) (s0) ((0 : Int32)) w)
def f_M_modules_66 (fu : Nat) (k33 : Nat → Int32 → Int32 → List va_E → Option (Int32 × List va_E)) (v0 : Nat) (v1 : Int32) (v2 : Int32) (w : List va_E) : Option (Int32 × List va_E) := (f_M_modules_71 fu k33 (v0) (v1) (v2) ((1 : Int32)) w)
def f_M_modules_33 (fu : Nat) : Nat → Nat → Int32 → Int32 → List va_E → Option (Int32 × List va_E)
  | 0, _, _, _, _ => none
  | n + 1, v0, v1, v2, w => ((hp_gi w v0 7 4).bind fun x1 => (if x1 ≤ v2 then (some (v1, w)) else ((hp_gi w v0 7 9).bind fun x2 => (if v2 = x2 then (f_M_modules_66 fu (f_M_modules_33 fu n) (v0) (v1) (v2) w) else ((hp_gr w v0 7 10).bind fun q3 => ((hp_gi w v0 7 9).bind fun x4 => ((hp_rz w q3 (((12 : Int32) * x4) + v2)).bind fun x5 => (if x5 = 0 then (f_M_modules_71 fu (f_M_modules_33 fu n) (v0) (v1) (v2) ((0 : Int32)) w) else (f_M_modules_66 fu (f_M_modules_33 fu n) (v0) (v1) (v2) w)))))))))
def f_M_modules_13 (fu : Nat) (v0 : Nat) (s0 : Nat) (s1 : Int32) (w : List va_E) : Option (Int32 × List va_E) := ((hp_pi w s0 7 0 s1).bind fun w1 => ((hp_gi w1 v0 7 0).bind fun x2 => (if x2 ≤ 0 then ((hp_is w1 v0 7).bind fun _ => ((f_M_findBelow fu v0 w1).bind fun r3 => (f_M_modules_33 fu fu (v0) ((0 : Int32)) ((0 : Int32)) r3))) else (some ((0 : Int32), w1)))))
def f_M_modules (fu : Nat) (v0 : Nat) (w : List va_E) : Option (Int32 × List va_E) := ((hp_gi w v0 7 9).bind fun x1 => (if 0 ≤ x1 then (f_M_modules_13 fu (v0) (v0) ((0 : Int32)) w) else (f_M_modules_13 fu (v0) (v0) ((1 : Int32)) w)))
section
variable {p : Program} {l : Launch} {e : Env} {s : State} {m : MethodId} {args : Array Value} {below : List Frame} {meth : Method} {c : Code} {D : va_G} {ca : Nat → Nat} {A : Nat → Prop} {ad : Nat → Nat}
set_option maxRecDepth 100000 in
set_option maxHeartbeats 4000000 in
theorem v_M_modules_191 (K : av_K p s m args meth c D cl8 ca A b_M_modules 7 R_M WS) (G : av_G NS tabON A s s.heap) (hr : meth.sig.returnType = some .int) (fu : Nat) {r : Int32 × List va_E} (k33 : Nat → Int32 → Int32 → List va_E → Option (Int32 × List va_E)) (k75 : Nat → Int32 → Int32 → Int32 → Int32 → List va_E → Option (Int32 × List va_E)) (k145 : Nat → Int32 → Int32 → Int32 → Int32 → Int32 → Int32 → List va_E → Option (Int32 × List va_E)) (hk33 : ∀ (v0 : Nat) (v1 : Int32) (v2 : Int32) (w : List va_E), k33 v0 v1 v2 w = some r → av_VI p l e rm_M_modules s m args below meth c D cl8 A ad ca 7 r 33 [some (.ref v0), some (.int v1), some (.int v2), none, none, none, none] [] w) (hk75 : ∀ (v0 : Nat) (v1 : Int32) (v2 : Int32) (v3 : Int32) (v4 : Int32) (w : List va_E), k75 v0 v1 v2 v3 v4 w = some r → av_VI p l e rm_M_modules s m args below meth c D cl8 A ad ca 7 r 75 [some (.ref v0), some (.int v1), some (.int v2), some (.int v3), some (.int v4), none, none] [] w) (hk145 : ∀ (v0 : Nat) (v1 : Int32) (v2 : Int32) (v3 : Int32) (v4 : Int32) (v5 : Int32) (v6 : Int32) (w : List va_E), k145 v0 v1 v2 v3 v4 v5 v6 w = some r → av_VI p l e rm_M_modules s m args below meth c D cl8 A ad ca 7 r 145 [some (.ref v0), some (.int v1), some (.int v2), some (.int v3), some (.int v4), some (.int v5), some (.int v6)] [] w) (v0 : Nat) (v1 : Int32) (v2 : Int32) (v4 : Int32) (v5 : Int32) (v6 : Int32) (s0 : Int32) (w : List va_E) (h : f_M_modules_191 fu k33 k75 k145 v0 v1 v2 v4 v5 v6 s0 w = some r) : av_VI p l e rm_M_modules s m args below meth c D cl8 A ad ca 7 r 191 [some (.ref v0), some (.int v1), some (.int v2), none, some (.int v4), some (.int v5), some (.int v6)] [.int s0] w := by
  unfold f_M_modules_191 at h
  refine av_istore_n (L' := [some (.ref v0), some (.int v1), some (.int v2), some (.int s0), some (.int v4), some (.int v5), some (.int v6)]) K d_M_modules_191 rfl (Nat.le_of_ble_eq_true rfl) rfl ?_
  refine av_iinc (v := (v6 + (1 : Int32))) (L' := [some (.ref v0), some (.int v1), some (.int v2), some (.int s0), some (.int v4), some (.int v5), some (.int (v6 + (1 : Int32)))]) K d_M_modules_192 rfl (congrArg (fun z => v6 + z) (show Int32.ofInt 1 = (1 : Int32) by decide)) (Nat.le_of_ble_eq_true rfl) rfl ?_
  refine av_goto (tgt := 145) K d_M_modules_195 rfl ?_
  exact hk145 (v0) (v1) (v2) (s0) (v4) (v5) ((v6 + (1 : Int32))) _ h
set_option maxRecDepth 100000 in
set_option maxHeartbeats 4000000 in
theorem v_M_modules_186 (K : av_K p s m args meth c D cl8 ca A b_M_modules 7 R_M WS) (G : av_G NS tabON A s s.heap) (hr : meth.sig.returnType = some .int) (fu : Nat) {r : Int32 × List va_E} (k33 : Nat → Int32 → Int32 → List va_E → Option (Int32 × List va_E)) (k75 : Nat → Int32 → Int32 → Int32 → Int32 → List va_E → Option (Int32 × List va_E)) (k145 : Nat → Int32 → Int32 → Int32 → Int32 → Int32 → Int32 → List va_E → Option (Int32 × List va_E)) (hk33 : ∀ (v0 : Nat) (v1 : Int32) (v2 : Int32) (w : List va_E), k33 v0 v1 v2 w = some r → av_VI p l e rm_M_modules s m args below meth c D cl8 A ad ca 7 r 33 [some (.ref v0), some (.int v1), some (.int v2), none, none, none, none] [] w) (hk75 : ∀ (v0 : Nat) (v1 : Int32) (v2 : Int32) (v3 : Int32) (v4 : Int32) (w : List va_E), k75 v0 v1 v2 v3 v4 w = some r → av_VI p l e rm_M_modules s m args below meth c D cl8 A ad ca 7 r 75 [some (.ref v0), some (.int v1), some (.int v2), some (.int v3), some (.int v4), none, none] [] w) (hk145 : ∀ (v0 : Nat) (v1 : Int32) (v2 : Int32) (v3 : Int32) (v4 : Int32) (v5 : Int32) (v6 : Int32) (w : List va_E), k145 v0 v1 v2 v3 v4 v5 v6 w = some r → av_VI p l e rm_M_modules s m args below meth c D cl8 A ad ca 7 r 145 [some (.ref v0), some (.int v1), some (.int v2), some (.int v3), some (.int v4), some (.int v5), some (.int v6)] [] w) (v0 : Nat) (v1 : Int32) (v2 : Int32) (v4 : Int32) (v5 : Int32) (v6 : Int32) (w : List va_E) (h : f_M_modules_186 fu k33 k75 k145 v0 v1 v2 v4 v5 v6 w = some r) : av_VI p l e rm_M_modules s m args below meth c D cl8 A ad ca 7 r 186 [some (.ref v0), some (.int v1), some (.int v2), none, some (.int v4), some (.int v5), some (.int v6)] [] w := by
  unfold f_M_modules_186 at h
  refine av_iconst (v := (1 : Int32)) K d_M_modules_186 (by decide) ?_
  refine av_goto (tgt := 191) K d_M_modules_187 rfl ?_
  exact v_M_modules_191 K G hr fu k33 k75 k145 hk33 hk75 hk145 (v0) (v1) (v2) (v4) (v5) (v6) ((1 : Int32)) _ h
set_option maxRecDepth 100000 in
set_option maxHeartbeats 4000000 in
theorem v_M_modules_190 (K : av_K p s m args meth c D cl8 ca A b_M_modules 7 R_M WS) (G : av_G NS tabON A s s.heap) (hr : meth.sig.returnType = some .int) (fu : Nat) {r : Int32 × List va_E} (k33 : Nat → Int32 → Int32 → List va_E → Option (Int32 × List va_E)) (k75 : Nat → Int32 → Int32 → Int32 → Int32 → List va_E → Option (Int32 × List va_E)) (k145 : Nat → Int32 → Int32 → Int32 → Int32 → Int32 → Int32 → List va_E → Option (Int32 × List va_E)) (hk33 : ∀ (v0 : Nat) (v1 : Int32) (v2 : Int32) (w : List va_E), k33 v0 v1 v2 w = some r → av_VI p l e rm_M_modules s m args below meth c D cl8 A ad ca 7 r 33 [some (.ref v0), some (.int v1), some (.int v2), none, none, none, none] [] w) (hk75 : ∀ (v0 : Nat) (v1 : Int32) (v2 : Int32) (v3 : Int32) (v4 : Int32) (w : List va_E), k75 v0 v1 v2 v3 v4 w = some r → av_VI p l e rm_M_modules s m args below meth c D cl8 A ad ca 7 r 75 [some (.ref v0), some (.int v1), some (.int v2), some (.int v3), some (.int v4), none, none] [] w) (hk145 : ∀ (v0 : Nat) (v1 : Int32) (v2 : Int32) (v3 : Int32) (v4 : Int32) (v5 : Int32) (v6 : Int32) (w : List va_E), k145 v0 v1 v2 v3 v4 v5 v6 w = some r → av_VI p l e rm_M_modules s m args below meth c D cl8 A ad ca 7 r 145 [some (.ref v0), some (.int v1), some (.int v2), some (.int v3), some (.int v4), some (.int v5), some (.int v6)] [] w) (v0 : Nat) (v1 : Int32) (v2 : Int32) (v4 : Int32) (v5 : Int32) (v6 : Int32) (w : List va_E) (h : f_M_modules_190 fu k33 k75 k145 v0 v1 v2 v4 v5 v6 w = some r) : av_VI p l e rm_M_modules s m args below meth c D cl8 A ad ca 7 r 190 [some (.ref v0), some (.int v1), some (.int v2), none, some (.int v4), some (.int v5), some (.int v6)] [] w := by
  unfold f_M_modules_190 at h
  refine av_iconst (v := (0 : Int32)) K d_M_modules_190 (by decide) ?_
  exact v_M_modules_191 K G hr fu k33 k75 k145 hk33 hk75 hk145 (v0) (v1) (v2) (v4) (v5) (v6) ((0 : Int32)) _ h
set_option maxRecDepth 100000 in
set_option maxHeartbeats 4000000 in
theorem v_M_modules_145 (K : av_K p s m args meth c D cl8 ca A b_M_modules 7 R_M WS) (G : av_G NS tabON A s s.heap) (hr : meth.sig.returnType = some .int) (fu : Nat) {r : Int32 × List va_E} (k33 : Nat → Int32 → Int32 → List va_E → Option (Int32 × List va_E)) (k75 : Nat → Int32 → Int32 → Int32 → Int32 → List va_E → Option (Int32 × List va_E)) (hk33 : ∀ (v0 : Nat) (v1 : Int32) (v2 : Int32) (w : List va_E), k33 v0 v1 v2 w = some r → av_VI p l e rm_M_modules s m args below meth c D cl8 A ad ca 7 r 33 [some (.ref v0), some (.int v1), some (.int v2), none, none, none, none] [] w) (hk75 : ∀ (v0 : Nat) (v1 : Int32) (v2 : Int32) (v3 : Int32) (v4 : Int32) (w : List va_E), k75 v0 v1 v2 v3 v4 w = some r → av_VI p l e rm_M_modules s m args below meth c D cl8 A ad ca 7 r 75 [some (.ref v0), some (.int v1), some (.int v2), some (.int v3), some (.int v4), none, none] [] w) : ∀ (n : Nat) (v0 : Nat) (v1 : Int32) (v2 : Int32) (v3 : Int32) (v4 : Int32) (v5 : Int32) (v6 : Int32) (w : List va_E), f_M_modules_145 fu k33 k75 n v0 v1 v2 v3 v4 v5 v6 w = some r → av_VI p l e rm_M_modules s m args below meth c D cl8 A ad ca 7 r 145 [some (.ref v0), some (.int v1), some (.int v2), some (.int v3), some (.int v4), some (.int v5), some (.int v6)] [] w := by
  intro n
  induction n with
  | zero => intro _ _ _ _ _ _ _ _ h; cases h
  | succ n ih =>
    intro v0 v1 v2 v3 v4 v5 v6 w h
    unfold f_M_modules_145 at h
    refine av_iload K d_M_modules_145 rfl ?_
    refine av_iconst (v := (4 : Int32)) K d_M_modules_147 (by decide) ?_
    refine av_iload K d_M_modules_148 rfl ?_
    refine av_imul K d_M_modules_150 ?_
    refine av_aload_n K d_M_modules_151 rfl rfl ?_
    obtain ⟨q1, eq1, h⟩ := hp_bd h
    refine hv_gr K fl_M_22 d_M_modules_152 eq1 ?_
    refine av_iload K d_M_modules_155 rfl ?_
    obtain ⟨x2, ex2, h⟩ := hp_bd h
    refine hv_ri K d_M_modules_157 ex2 ?_
    refine av_iadd K d_M_modules_158 ?_
    refine av_icmp_ge (tgt := 198) K d_M_modules_159 rfl (fun hc => ?_) (fun hc => ?_)
    · rw [if_pos hc] at h
      refine av_iinc (v := (v4 + (1 : Int32))) (L' := [some (.ref v0), some (.int v1), some (.int v2), some (.int v3), some (.int (v4 + (1 : Int32))), some (.int v5), some (.int v6)]) K d_M_modules_198 rfl (congrArg (fun z => v4 + z) (show Int32.ofInt 1 = (1 : Int32) by decide)) (Nat.le_of_ble_eq_true rfl) rfl ?_
      refine av_goto (tgt := 75) K d_M_modules_201 rfl ?_
      refine hv_fg (L' := [some (.ref v0), some (.int v1), some (.int v2), some (.int v3), some (.int (v4 + (1 : Int32))), none, none]) [5, 6] rfl ?_
      exact hk75 (v0) (v1) (v2) (v3) ((v4 + (1 : Int32))) _ h
    · rw [if_neg hc] at h
      refine av_iload_n K d_M_modules_162 rfl rfl ?_
      refine av_if_eq (tgt := 190) K d_M_modules_163 rfl (fun hc => ?_) (fun hc => ?_)
      · rw [if_pos hc] at h
        refine hv_fg (L' := [some (.ref v0), some (.int v1), some (.int v2), none, some (.int v4), some (.int v5), some (.int v6)]) [3] rfl ?_
        exact v_M_modules_190 K G hr fu k33 k75 (f_M_modules_145 fu k33 k75 n) hk33 hk75 ih (v0) (v1) (v2) (v4) (v5) (v6) _ h
      · rw [if_neg hc] at h
        refine av_iload K d_M_modules_166 rfl ?_
        refine av_if_eq (tgt := 186) K d_M_modules_168 rfl (fun hc => ?_) (fun hc => ?_)
        · rw [if_pos hc] at h
          refine hv_fg (L' := [some (.ref v0), some (.int v1), some (.int v2), none, some (.int v4), some (.int v5), some (.int v6)]) [3] rfl ?_
          exact v_M_modules_186 K G hr fu k33 k75 (f_M_modules_145 fu k33 k75 n) hk33 hk75 ih (v0) (v1) (v2) (v4) (v5) (v6) _ h
        · rw [if_neg hc] at h
          refine av_aload_n K d_M_modules_171 rfl rfl ?_
          refine av_iload_n K d_M_modules_172 rfl rfl ?_
          refine av_aload_n K d_M_modules_173 rfl rfl ?_
          obtain ⟨q3, eq3, h⟩ := hp_bd h
          refine hv_gr K fl_M_25 d_M_modules_174 eq3 ?_
          refine av_iload K d_M_modules_177 rfl ?_
          obtain ⟨x4, ex4, h⟩ := hp_bd h
          refine hv_ri K d_M_modules_179 ex4 ?_
          obtain ⟨_, eo180, h⟩ := hp_bd h
          obtain ⟨r5, er5, h⟩ := hp_bd h
          obtain ⟨fs180, ho180⟩ := hp_is_of eo180
          refine av_cVi K G (c_M_isUnder (tab := tabON) er5) (cwV 2 K.2.2.2.2.1 (gV ml_M_146 im_M_isUnder se_M_isUnder in_M co_M_isUnder) rfl rfl rfl cd_M_isUnder ⟨Nat.le_of_ble_eq_true rfl, Nat.le_of_ble_eq_true rfl⟩) rfl ho180 rfl rfl (Nat.le_of_ble_eq_true rfl) d_M_modules_180 ⟨Nat.zero_le _, Nat.zero_le _⟩ (fun a9 u9 h9 => ?_)
          obtain ⟨rfl, rfl⟩ : a9 = r5.1 ∧ u9 = r5.2 := ⟨congrArg Prod.fst h9, congrArg Prod.snd h9⟩
          refine av_if_ne (tgt := 190) K d_M_modules_183 rfl (fun hc => ?_) (fun hc => ?_)
          · rw [if_neg hc] at h
            refine hv_fg (L' := [some (.ref v0), some (.int v1), some (.int v2), none, some (.int v4), some (.int v5), some (.int v6)]) [3] rfl ?_
            exact v_M_modules_190 K G hr fu k33 k75 (f_M_modules_145 fu k33 k75 n) hk33 hk75 ih (v0) (v1) (v2) (v4) (v5) (v6) _ h
          · rw [if_pos hc] at h
            refine hv_fg (L' := [some (.ref v0), some (.int v1), some (.int v2), none, some (.int v4), some (.int v5), some (.int v6)]) [3] rfl ?_
            exact v_M_modules_186 K G hr fu k33 k75 (f_M_modules_145 fu k33 k75 n) hk33 hk75 ih (v0) (v1) (v2) (v4) (v5) (v6) _ h
set_option maxRecDepth 100000 in
set_option maxHeartbeats 4000000 in
theorem v_M_modules_137 (K : av_K p s m args meth c D cl8 ca A b_M_modules 7 R_M WS) (G : av_G NS tabON A s s.heap) (hr : meth.sig.returnType = some .int) (fu : Nat) {r : Int32 × List va_E} (k33 : Nat → Int32 → Int32 → List va_E → Option (Int32 × List va_E)) (k75 : Nat → Int32 → Int32 → Int32 → Int32 → List va_E → Option (Int32 × List va_E)) (hk33 : ∀ (v0 : Nat) (v1 : Int32) (v2 : Int32) (w : List va_E), k33 v0 v1 v2 w = some r → av_VI p l e rm_M_modules s m args below meth c D cl8 A ad ca 7 r 33 [some (.ref v0), some (.int v1), some (.int v2), none, none, none, none] [] w) (hk75 : ∀ (v0 : Nat) (v1 : Int32) (v2 : Int32) (v3 : Int32) (v4 : Int32) (w : List va_E), k75 v0 v1 v2 v3 v4 w = some r → av_VI p l e rm_M_modules s m args below meth c D cl8 A ad ca 7 r 75 [some (.ref v0), some (.int v1), some (.int v2), some (.int v3), some (.int v4), none, none] [] w) (v0 : Nat) (v1 : Int32) (v2 : Int32) (v3 : Int32) (v4 : Int32) (s0 : Int32) (w : List va_E) (h : f_M_modules_137 fu k33 k75 v0 v1 v2 v3 v4 s0 w = some r) : av_VI p l e rm_M_modules s m args below meth c D cl8 A ad ca 7 r 137 [some (.ref v0), some (.int v1), some (.int v2), some (.int v3), some (.int v4), none, none] [.int s0] w := by
  unfold f_M_modules_137 at h
  refine av_istore (L' := [some (.ref v0), some (.int v1), some (.int v2), some (.int v3), some (.int v4), some (.int s0), none]) K d_M_modules_137 (Nat.le_of_ble_eq_true rfl) rfl ?_
  refine av_iconst (v := (4 : Int32)) K d_M_modules_139 (by decide) ?_
  refine av_iload K d_M_modules_140 rfl ?_
  refine av_imul K d_M_modules_142 ?_
  refine av_istore (L' := [some (.ref v0), some (.int v1), some (.int v2), some (.int v3), some (.int v4), some (.int s0), some (.int ((4 : Int32) * v4))]) K d_M_modules_143 (Nat.le_of_ble_eq_true rfl) rfl ?_
  exact v_M_modules_145 K G hr fu k33 k75 hk33 hk75 fu (v0) (v1) (v2) (v3) (v4) (s0) (((4 : Int32) * v4)) _ h
set_option maxRecDepth 100000 in
set_option maxHeartbeats 4000000 in
theorem v_M_modules_136 (K : av_K p s m args meth c D cl8 ca A b_M_modules 7 R_M WS) (G : av_G NS tabON A s s.heap) (hr : meth.sig.returnType = some .int) (fu : Nat) {r : Int32 × List va_E} (k33 : Nat → Int32 → Int32 → List va_E → Option (Int32 × List va_E)) (k75 : Nat → Int32 → Int32 → Int32 → Int32 → List va_E → Option (Int32 × List va_E)) (hk33 : ∀ (v0 : Nat) (v1 : Int32) (v2 : Int32) (w : List va_E), k33 v0 v1 v2 w = some r → av_VI p l e rm_M_modules s m args below meth c D cl8 A ad ca 7 r 33 [some (.ref v0), some (.int v1), some (.int v2), none, none, none, none] [] w) (hk75 : ∀ (v0 : Nat) (v1 : Int32) (v2 : Int32) (v3 : Int32) (v4 : Int32) (w : List va_E), k75 v0 v1 v2 v3 v4 w = some r → av_VI p l e rm_M_modules s m args below meth c D cl8 A ad ca 7 r 75 [some (.ref v0), some (.int v1), some (.int v2), some (.int v3), some (.int v4), none, none] [] w) (v0 : Nat) (v1 : Int32) (v2 : Int32) (v3 : Int32) (v4 : Int32) (w : List va_E) (h : f_M_modules_136 fu k33 k75 v0 v1 v2 v3 v4 w = some r) : av_VI p l e rm_M_modules s m args below meth c D cl8 A ad ca 7 r 136 [some (.ref v0), some (.int v1), some (.int v2), some (.int v3), some (.int v4), none, none] [] w := by
  unfold f_M_modules_136 at h
  refine av_iconst (v := (0 : Int32)) K d_M_modules_136 (by decide) ?_
  exact v_M_modules_137 K G hr fu k33 k75 hk33 hk75 (v0) (v1) (v2) (v3) (v4) ((0 : Int32)) _ h
set_option maxRecDepth 100000 in
set_option maxHeartbeats 4000000 in
theorem v_M_modules_216 (K : av_K p s m args meth c D cl8 ca A b_M_modules 7 R_M WS) (G : av_G NS tabON A s s.heap) (hr : meth.sig.returnType = some .int) (fu : Nat) {r : Int32 × List va_E} (k33 : Nat → Int32 → Int32 → List va_E → Option (Int32 × List va_E)) (hk33 : ∀ (v0 : Nat) (v1 : Int32) (v2 : Int32) (w : List va_E), k33 v0 v1 v2 w = some r → av_VI p l e rm_M_modules s m args below meth c D cl8 A ad ca 7 r 33 [some (.ref v0), some (.int v1), some (.int v2), none, none, none, none] [] w) (v0 : Nat) (v2 : Int32) (s0 : Int32) (s1 : Int32) (w : List va_E) (h : f_M_modules_216 fu k33 v0 v2 s0 s1 w = some r) : av_VI p l e rm_M_modules s m args below meth c D cl8 A ad ca 7 r 216 [some (.ref v0), none, some (.int v2), none, none, none, none] [.int s1, .int s0] w := by
  unfold f_M_modules_216 at h
  refine av_ior K d_M_modules_216 ?_
  refine av_istore_n (L' := [some (.ref v0), some (.int (s0 ||| s1)), some (.int v2), none, none, none, none]) K d_M_modules_217 rfl (Nat.le_of_ble_eq_true rfl) rfl ?_
  refine av_iinc (v := (v2 + (1 : Int32))) (L' := [some (.ref v0), some (.int (s0 ||| s1)), some (.int (v2 + (1 : Int32))), none, none, none, none]) K d_M_modules_218 rfl (congrArg (fun z => v2 + z) (show Int32.ofInt 1 = (1 : Int32) by decide)) (Nat.le_of_ble_eq_true rfl) rfl ?_
  refine av_goto (tgt := 33) K d_M_modules_221 rfl ?_
  exact hk33 (v0) ((s0 ||| s1)) ((v2 + (1 : Int32))) _ h
set_option maxRecDepth 100000 in
set_option maxHeartbeats 4000000 in
theorem v_M_modules_111 (K : av_K p s m args meth c D cl8 ca A b_M_modules 7 R_M WS) (G : av_G NS tabON A s s.heap) (hr : meth.sig.returnType = some .int) (fu : Nat) {r : Int32 × List va_E} (k33 : Nat → Int32 → Int32 → List va_E → Option (Int32 × List va_E)) (k75 : Nat → Int32 → Int32 → Int32 → Int32 → List va_E → Option (Int32 × List va_E)) (hk33 : ∀ (v0 : Nat) (v1 : Int32) (v2 : Int32) (w : List va_E), k33 v0 v1 v2 w = some r → av_VI p l e rm_M_modules s m args below meth c D cl8 A ad ca 7 r 33 [some (.ref v0), some (.int v1), some (.int v2), none, none, none, none] [] w) (hk75 : ∀ (v0 : Nat) (v1 : Int32) (v2 : Int32) (v3 : Int32) (v4 : Int32) (w : List va_E), k75 v0 v1 v2 v3 v4 w = some r → av_VI p l e rm_M_modules s m args below meth c D cl8 A ad ca 7 r 75 [some (.ref v0), some (.int v1), some (.int v2), some (.int v3), some (.int v4), none, none] [] w) (v0 : Nat) (v1 : Int32) (v2 : Int32) (v3 : Int32) (v4 : Int32) (w : List va_E) (h : f_M_modules_111 fu k33 k75 v0 v1 v2 v3 v4 w = some r) : av_VI p l e rm_M_modules s m args below meth c D cl8 A ad ca 7 r 111 [some (.ref v0), some (.int v1), some (.int v2), some (.int v3), some (.int v4), none, none] [] w := by
  unfold f_M_modules_111 at h
  refine av_iload K d_M_modules_111 rfl ?_
  refine av_iload_n K d_M_modules_113 rfl rfl ?_
  refine av_icmp_eq (tgt := 136) K d_M_modules_114 rfl (fun hc => ?_) (fun hc => ?_)
  · rw [if_pos hc] at h
    exact v_M_modules_136 K G hr fu k33 k75 hk33 hk75 (v0) (v1) (v2) (v3) (v4) _ h
  · rw [if_neg hc] at h
    refine av_aload_n K d_M_modules_117 rfl rfl ?_
    obtain ⟨q1, eq1, h⟩ := hp_bd h
    refine hv_gr K fl_M_32 d_M_modules_118 eq1 ?_
    refine av_bipush (v := (12 : Int32)) K d_M_modules_121 (by decide) ?_
    refine av_iload_n K d_M_modules_123 rfl rfl ?_
    refine av_imul K d_M_modules_124 ?_
    refine av_iload K d_M_modules_125 rfl ?_
    refine av_iadd K d_M_modules_127 ?_
    obtain ⟨x2, ex2, h⟩ := hp_bd h
    refine hv_rz K d_M_modules_128 ex2 ?_
    refine av_if_ne (tgt := 136) K d_M_modules_129 rfl (fun hc => ?_) (fun hc => ?_)
    · rw [if_neg hc] at h
      exact v_M_modules_136 K G hr fu k33 k75 hk33 hk75 (v0) (v1) (v2) (v3) (v4) _ h
    · rw [if_pos hc] at h
      refine av_iconst (v := (1 : Int32)) K d_M_modules_132 (by decide) ?_
      refine av_goto (tgt := 137) K d_M_modules_133 rfl ?_
      exact v_M_modules_137 K G hr fu k33 k75 hk33 hk75 (v0) (v1) (v2) (v3) (v4) ((1 : Int32)) _ h
set_option maxRecDepth 100000 in
set_option maxHeartbeats 4000000 in
theorem v_M_modules_75 (K : av_K p s m args meth c D cl8 ca A b_M_modules 7 R_M WS) (G : av_G NS tabON A s s.heap) (hr : meth.sig.returnType = some .int) (fu : Nat) {r : Int32 × List va_E} (k33 : Nat → Int32 → Int32 → List va_E → Option (Int32 × List va_E)) (hk33 : ∀ (v0 : Nat) (v1 : Int32) (v2 : Int32) (w : List va_E), k33 v0 v1 v2 w = some r → av_VI p l e rm_M_modules s m args below meth c D cl8 A ad ca 7 r 33 [some (.ref v0), some (.int v1), some (.int v2), none, none, none, none] [] w) : ∀ (n : Nat) (v0 : Nat) (v1 : Int32) (v2 : Int32) (v3 : Int32) (v4 : Int32) (w : List va_E), f_M_modules_75 fu k33 n v0 v1 v2 v3 v4 w = some r → av_VI p l e rm_M_modules s m args below meth c D cl8 A ad ca 7 r 75 [some (.ref v0), some (.int v1), some (.int v2), some (.int v3), some (.int v4), none, none] [] w := by
  intro n
  induction n with
  | zero => intro _ _ _ _ _ _ h; cases h
  | succ n ih =>
    intro v0 v1 v2 v3 v4 w h
    unfold f_M_modules_75 at h
    refine av_iload K d_M_modules_75 rfl ?_
    refine av_aload_n K d_M_modules_77 rfl rfl ?_
    obtain ⟨x1, ex1, h⟩ := hp_bd h
    refine hv_gi K fl_M_64 d_M_modules_78 ex1 ?_
    refine av_icmp_ge (tgt := 204) K d_M_modules_81 rfl (fun hc => ?_) (fun hc => ?_)
    · rw [if_pos hc] at h
      refine av_iload_n K d_M_modules_204 rfl rfl ?_
      refine av_iload_n K d_M_modules_205 rfl rfl ?_
      refine av_if_eq (tgt := 215) K d_M_modules_206 rfl (fun hc => ?_) (fun hc => ?_)
      · rw [if_pos hc] at h
        refine av_iconst (v := (0 : Int32)) K d_M_modules_215 (by decide) ?_
        refine hv_fg (L' := [some (.ref v0), none, some (.int v2), none, none, none, none]) [1, 3, 4] rfl ?_
        exact v_M_modules_216 K G hr fu k33 hk33 (v0) (v2) (v1) ((0 : Int32)) _ h
      · rw [if_neg hc] at h
        refine av_iconst (v := (1 : Int32)) K d_M_modules_209 (by decide) ?_
        refine av_iload_n K d_M_modules_210 rfl rfl ?_
        refine av_ishl K d_M_modules_211 ?_
        refine av_goto (tgt := 216) K d_M_modules_212 rfl ?_
        refine hv_fg (L' := [some (.ref v0), none, some (.int v2), none, none, none, none]) [1, 3, 4] rfl ?_
        exact v_M_modules_216 K G hr fu k33 hk33 (v0) (v2) (v1) (((1 : Int32) <<< (v2 &&& 31))) _ h
    · rw [if_neg hc] at h
      refine av_iload K d_M_modules_84 rfl ?_
      refine av_aload_n K d_M_modules_86 rfl rfl ?_
      obtain ⟨x2, ex2, h⟩ := hp_bd h
      refine hv_gi K fl_M_28 d_M_modules_87 ex2 ?_
      refine av_icmp_eq (tgt := 111) K d_M_modules_90 rfl (fun hc => ?_) (fun hc => ?_)
      · rw [if_pos hc] at h
        exact v_M_modules_111 K G hr fu k33 (f_M_modules_75 fu k33 n) hk33 ih (v0) (v1) (v2) (v3) (v4) _ h
      · rw [if_neg hc] at h
        refine av_aload_n K d_M_modules_93 rfl rfl ?_
        obtain ⟨q3, eq3, h⟩ := hp_bd h
        refine hv_gr K fl_M_32 d_M_modules_94 eq3 ?_
        refine av_bipush (v := (12 : Int32)) K d_M_modules_97 (by decide) ?_
        refine av_aload_n K d_M_modules_99 rfl rfl ?_
        obtain ⟨x4, ex4, h⟩ := hp_bd h
        refine hv_gi K fl_M_28 d_M_modules_100 ex4 ?_
        refine av_imul K d_M_modules_103 ?_
        refine av_iload K d_M_modules_104 rfl ?_
        refine av_iadd K d_M_modules_106 ?_
        obtain ⟨x5, ex5, h⟩ := hp_bd h
        refine hv_rz K d_M_modules_107 ex5 ?_
        refine av_if_eq (tgt := 136) K d_M_modules_108 rfl (fun hc => ?_) (fun hc => ?_)
        · rw [if_pos hc] at h
          exact v_M_modules_136 K G hr fu k33 (f_M_modules_75 fu k33 n) hk33 ih (v0) (v1) (v2) (v3) (v4) _ h
        · rw [if_neg hc] at h
          exact v_M_modules_111 K G hr fu k33 (f_M_modules_75 fu k33 n) hk33 ih (v0) (v1) (v2) (v3) (v4) _ h
set_option maxRecDepth 100000 in
set_option maxHeartbeats 4000000 in
theorem v_M_modules_71 (K : av_K p s m args meth c D cl8 ca A b_M_modules 7 R_M WS) (G : av_G NS tabON A s s.heap) (hr : meth.sig.returnType = some .int) (fu : Nat) {r : Int32 × List va_E} (k33 : Nat → Int32 → Int32 → List va_E → Option (Int32 × List va_E)) (hk33 : ∀ (v0 : Nat) (v1 : Int32) (v2 : Int32) (w : List va_E), k33 v0 v1 v2 w = some r → av_VI p l e rm_M_modules s m args below meth c D cl8 A ad ca 7 r 33 [some (.ref v0), some (.int v1), some (.int v2), none, none, none, none] [] w) (v0 : Nat) (v1 : Int32) (v2 : Int32) (s0 : Int32) (w : List va_E) (h : f_M_modules_71 fu k33 v0 v1 v2 s0 w = some r) : av_VI p l e rm_M_modules s m args below meth c D cl8 A ad ca 7 r 71 [some (.ref v0), some (.int v1), some (.int v2), none, none, none, none] [.int s0] w := by
  unfold f_M_modules_71 at h
  refine av_istore_n (L' := [some (.ref v0), some (.int v1), some (.int v2), some (.int s0), none, none, none]) K d_M_modules_71 rfl (Nat.le_of_ble_eq_true rfl) rfl ?_
  refine av_iconst (v := (0 : Int32)) K d_M_modules_72 (by decide) ?_
  refine av_istore (L' := [some (.ref v0), some (.int v1), some (.int v2), some (.int s0), some (.int (0 : Int32)), none, none]) K d_M_modules_73 (Nat.le_of_ble_eq_true rfl) rfl ?_
  exact v_M_modules_75 K G hr fu k33 hk33 fu (v0) (v1) (v2) (s0) ((0 : Int32)) _ h
set_option maxRecDepth 100000 in
set_option maxHeartbeats 4000000 in
theorem v_M_modules_66 (K : av_K p s m args meth c D cl8 ca A b_M_modules 7 R_M WS) (G : av_G NS tabON A s s.heap) (hr : meth.sig.returnType = some .int) (fu : Nat) {r : Int32 × List va_E} (k33 : Nat → Int32 → Int32 → List va_E → Option (Int32 × List va_E)) (hk33 : ∀ (v0 : Nat) (v1 : Int32) (v2 : Int32) (w : List va_E), k33 v0 v1 v2 w = some r → av_VI p l e rm_M_modules s m args below meth c D cl8 A ad ca 7 r 33 [some (.ref v0), some (.int v1), some (.int v2), none, none, none, none] [] w) (v0 : Nat) (v1 : Int32) (v2 : Int32) (w : List va_E) (h : f_M_modules_66 fu k33 v0 v1 v2 w = some r) : av_VI p l e rm_M_modules s m args below meth c D cl8 A ad ca 7 r 66 [some (.ref v0), some (.int v1), some (.int v2), none, none, none, none] [] w := by
  unfold f_M_modules_66 at h
  refine av_iconst (v := (1 : Int32)) K d_M_modules_66 (by decide) ?_
  refine av_goto (tgt := 71) K d_M_modules_67 rfl ?_
  exact v_M_modules_71 K G hr fu k33 hk33 (v0) (v1) (v2) ((1 : Int32)) _ h
set_option maxRecDepth 100000 in
set_option maxHeartbeats 4000000 in
theorem v_M_modules_33 (K : av_K p s m args meth c D cl8 ca A b_M_modules 7 R_M WS) (G : av_G NS tabON A s s.heap) (hr : meth.sig.returnType = some .int) (fu : Nat) {r : Int32 × List va_E} : ∀ (n : Nat) (v0 : Nat) (v1 : Int32) (v2 : Int32) (w : List va_E), f_M_modules_33 fu n v0 v1 v2 w = some r → av_VI p l e rm_M_modules s m args below meth c D cl8 A ad ca 7 r 33 [some (.ref v0), some (.int v1), some (.int v2), none, none, none, none] [] w := by
  intro n
  induction n with
  | zero => intro _ _ _ _ h; cases h
  | succ n ih =>
    intro v0 v1 v2 w h
    unfold f_M_modules_33 at h
    refine av_iload_n K d_M_modules_33 rfl rfl ?_
    refine av_aload_n K d_M_modules_34 rfl rfl ?_
    obtain ⟨x1, ex1, h⟩ := hp_bd h
    refine hv_gi K fl_M_64 d_M_modules_35 ex1 ?_
    refine av_icmp_ge (tgt := 224) K d_M_modules_38 rfl (fun hc => ?_) (fun hc => ?_)
    · rw [if_pos hc] at h
      refine av_iload_n K d_M_modules_224 rfl rfl ?_
      obtain rfl := Option.some.inj h
      exact av_ireturn K hr d_M_modules_225 rfl
    · rw [if_neg hc] at h
      refine av_iload_n K d_M_modules_41 rfl rfl ?_
      refine av_aload_n K d_M_modules_42 rfl rfl ?_
      obtain ⟨x2, ex2, h⟩ := hp_bd h
      refine hv_gi K fl_M_28 d_M_modules_43 ex2 ?_
      refine av_icmp_eq (tgt := 66) K d_M_modules_46 rfl (fun hc => ?_) (fun hc => ?_)
      · rw [if_pos hc] at h
        exact v_M_modules_66 K G hr fu (f_M_modules_33 fu n) ih (v0) (v1) (v2) _ h
      · rw [if_neg hc] at h
        refine av_aload_n K d_M_modules_49 rfl rfl ?_
        obtain ⟨q3, eq3, h⟩ := hp_bd h
        refine hv_gr K fl_M_32 d_M_modules_50 eq3 ?_
        refine av_bipush (v := (12 : Int32)) K d_M_modules_53 (by decide) ?_
        refine av_aload_n K d_M_modules_55 rfl rfl ?_
        obtain ⟨x4, ex4, h⟩ := hp_bd h
        refine hv_gi K fl_M_28 d_M_modules_56 ex4 ?_
        refine av_imul K d_M_modules_59 ?_
        refine av_iload_n K d_M_modules_60 rfl rfl ?_
        refine av_iadd K d_M_modules_61 ?_
        obtain ⟨x5, ex5, h⟩ := hp_bd h
        refine hv_rz K d_M_modules_62 ex5 ?_
        refine av_if_eq (tgt := 70) K d_M_modules_63 rfl (fun hc => ?_) (fun hc => ?_)
        · rw [if_pos hc] at h
          refine av_iconst (v := (0 : Int32)) K d_M_modules_70 (by decide) ?_
          exact v_M_modules_71 K G hr fu (f_M_modules_33 fu n) ih (v0) (v1) (v2) ((0 : Int32)) _ h
        · rw [if_neg hc] at h
          exact v_M_modules_66 K G hr fu (f_M_modules_33 fu n) ih (v0) (v1) (v2) _ h
set_option maxRecDepth 100000 in
set_option maxHeartbeats 4000000 in
theorem v_M_modules_13 (K : av_K p s m args meth c D cl8 ca A b_M_modules 7 R_M WS) (G : av_G NS tabON A s s.heap) (hr : meth.sig.returnType = some .int) (fu : Nat) {r : Int32 × List va_E} (v0 : Nat) (s0 : Nat) (s1 : Int32) (w : List va_E) (h : f_M_modules_13 fu v0 s0 s1 w = some r) : av_VI p l e rm_M_modules s m args below meth c D cl8 A ad ca 7 r 13 [some (.ref v0), none, none, none, none, none, none] [.int s1, .ref s0] w := by
  unfold f_M_modules_13 at h
  obtain ⟨w1, ew1, h⟩ := hp_bd h
  refine hv_pi K fp_M_58 d_M_modules_13 ew1 ?_
  refine av_aload_n K d_M_modules_16 rfl rfl ?_
  obtain ⟨x2, ex2, h⟩ := hp_bd h
  refine hv_gi K fl_M_58 d_M_modules_17 ex2 ?_
  refine av_if_le (tgt := 25) K d_M_modules_20 rfl (fun hc => ?_) (fun hc => ?_)
  · rw [if_pos hc] at h
    refine av_aload_n K d_M_modules_25 rfl rfl ?_
    obtain ⟨_, eo26, h⟩ := hp_bd h
    obtain ⟨r3, er3, h⟩ := hp_bd h
    obtain ⟨fs26, ho26⟩ := hp_is_of eo26
    refine av_cVv K G (c_M_findBelow (tab := tabON) er3) (cwV 0 K.2.2.2.2.1 (gV ml_M_78 im_M_findBelow se_M_findBelow in_M co_M_findBelow) rfl rfl rfl cd_M_findBelow ⟨Nat.le_of_ble_eq_true rfl, Nat.le_of_ble_eq_true rfl⟩) rfl ho26 rfl rfl (Nat.le_of_ble_eq_true rfl) d_M_modules_26 ⟨Nat.zero_le _, Nat.zero_le _⟩ (fun u9 h9 => ?_)
    subst h9
    refine av_iconst (v := (0 : Int32)) K d_M_modules_29 (by decide) ?_
    refine av_istore_n (L' := [some (.ref v0), some (.int (0 : Int32)), none, none, none, none, none]) K d_M_modules_30 rfl (Nat.le_of_ble_eq_true rfl) rfl ?_
    refine av_iconst (v := (0 : Int32)) K d_M_modules_31 (by decide) ?_
    refine av_istore_n (L' := [some (.ref v0), some (.int (0 : Int32)), some (.int (0 : Int32)), none, none, none, none]) K d_M_modules_32 rfl (Nat.le_of_ble_eq_true rfl) rfl ?_
    exact v_M_modules_33 K G hr fu fu (v0) ((0 : Int32)) ((0 : Int32)) _ h
  · rw [if_neg hc] at h
    refine av_iconst (v := (0 : Int32)) K d_M_modules_23 (by decide) ?_
    obtain rfl := Option.some.inj h
    exact av_ireturn K hr d_M_modules_24 rfl
set_option maxRecDepth 100000 in
set_option maxHeartbeats 4000000 in
theorem v_M_modules (K : av_K p s m args meth c D cl8 ca A b_M_modules 7 R_M WS) (G : av_G NS tabON A s s.heap) (hr : meth.sig.returnType = some .int) (fu : Nat) {r : Int32 × List va_E} (v0 : Nat) (w : List va_E) (h : f_M_modules fu v0 w = some r) : av_VI p l e rm_M_modules s m args below meth c D cl8 A ad ca 7 r 0 [some (.ref v0), none, none, none, none, none, none] [] w := by
  unfold f_M_modules at h
  refine av_aload_n K d_M_modules_0 rfl rfl ?_
  refine av_aload_n K d_M_modules_1 rfl rfl ?_
  obtain ⟨x1, ex1, h⟩ := hp_bd h
  refine hv_gi K fl_M_28 d_M_modules_2 ex1 ?_
  refine av_if_ge (tgt := 12) K d_M_modules_5 rfl (fun hc => ?_) (fun hc => ?_)
  · rw [if_pos hc] at h
    refine av_iconst (v := (0 : Int32)) K d_M_modules_12 (by decide) ?_
    exact v_M_modules_13 K G hr fu (v0) (v0) ((0 : Int32)) _ h
  · rw [if_neg hc] at h
    refine av_iconst (v := (1 : Int32)) K d_M_modules_8 (by decide) ?_
    refine av_goto (tgt := 13) K d_M_modules_9 rfl ?_
    exact v_M_modules_13 K G hr fu (v0) (v0) ((1 : Int32)) _ h
end
set_option maxRecDepth 100000 in
theorem c_M_modules {l : Launch} {D : va_G} {ca : Nat → Nat} {tab : Nat → Int64} {fu : Nat} {v0 : Nat} {w : List va_E} {r : Int32 × List va_E} (h : f_M_modules fu v0 w = some r) : av_Ci l D cl8 ca NS tabON y_M_modules w_M_modules rm_M_modules [.ref v0] w (fun v u => (v, u) = r) :=
  av_inI (cc := b_M_modules) (nL := 7) (by decide +kernel) rfl (Nat.le_of_ble_eq_true rfl) (fun p e s m args below meth c A ad K G hr => v_M_modules K G hr fu v0 w h)
