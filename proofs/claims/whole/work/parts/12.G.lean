-- FaultTreeDesk$Gates.has(I)Z
theorem d_G_has_0 : decode b_G_has 0 = .ok (.iload_n 1, 1) := by decide +kernel
theorem d_G_has_1 : decode b_G_has 1 = .ok (.ifCond .lt 15, 3) := by decide +kernel
theorem d_G_has_4 : decode b_G_has 4 = .ok (.iload_n 1, 1) := by decide +kernel
theorem d_G_has_5 : decode b_G_has 5 = .ok (.aload_n 0, 1) := by decide +kernel
theorem d_G_has_6 : decode b_G_has 6 = .ok (.getfield 24, 3) := by decide +kernel
theorem d_G_has_9 : decode b_G_has 9 = .ok (.if_icmp .ge 7, 3) := by decide +kernel
theorem d_G_has_12 : decode b_G_has 12 = .ok (.iconst 1, 1) := by decide +kernel
theorem d_G_has_13 : decode b_G_has 13 = .ok (.goto 4, 3) := by decide +kernel
theorem d_G_has_16 : decode b_G_has 16 = .ok (.iconst 0, 1) := by decide +kernel
theorem d_G_has_17 : decode b_G_has 17 = .ok (.ireturn, 1) := by decide +kernel
def rm_G_has : Room := { frames := 0, cells := 0, slots := 0, locals := 0 }
def f_G_has_17 (fu : Nat) (s0 : Int32) (w : List va_E) : Option (Int32 × List va_E) := (if s0 = 0 ∨ s0 = 1 then some (s0, w) else none)
def f_G_has_16 (fu : Nat) (w : List va_E) : Option (Int32 × List va_E) := (f_G_has_17 fu ((0 : Int32)) w)
def f_G_has (fu : Nat) (v0 : Nat) (v1 : Int32) (w : List va_E) : Option (Int32 × List va_E) := (if v1 < 0 then (f_G_has_16 fu w) else ((hp_gi w v0 2 4).bind fun x1 => (if x1 ≤ v1 then (f_G_has_16 fu w) else (f_G_has_17 fu ((1 : Int32)) w))))
section
variable {p : Program} {l : Launch} {e : Env} {s : State} {m : MethodId} {args : Array Value} {below : List Frame} {meth : Method} {c : Code} {D : va_G} {ca : Nat → Nat} {A : Nat → Prop} {ad : Nat → Nat}
set_option maxRecDepth 100000 in
set_option maxHeartbeats 4000000 in
theorem v_G_has_17 (K : av_K p s m args meth c D cl8 ca A b_G_has 2 R_G WS) (G : av_G NS tabON A s s.heap) (hr : meth.sig.returnType = some .boolean) (fu : Nat) {r : Int32 × List va_E} (s0 : Int32) (w : List va_E) (h : f_G_has_17 fu s0 w = some r) : av_VI p l e rm_G_has s m args below meth c D cl8 A ad ca 2 r 17 [none, none] [.int s0] w := by
  unfold f_G_has_17 at h
  obtain ⟨hz, h⟩ := hp_if h
  obtain rfl := Option.some.inj h
  exact av_zreturn K hr (hp_nz hz) d_G_has_17 rfl
set_option maxRecDepth 100000 in
set_option maxHeartbeats 4000000 in
theorem v_G_has_16 (K : av_K p s m args meth c D cl8 ca A b_G_has 2 R_G WS) (G : av_G NS tabON A s s.heap) (hr : meth.sig.returnType = some .boolean) (fu : Nat) {r : Int32 × List va_E} (w : List va_E) (h : f_G_has_16 fu w = some r) : av_VI p l e rm_G_has s m args below meth c D cl8 A ad ca 2 r 16 [none, none] [] w := by
  unfold f_G_has_16 at h
  refine av_iconst (v := (0 : Int32)) K d_G_has_16 (by decide) ?_
  exact v_G_has_17 K G hr fu ((0 : Int32)) _ h
set_option maxRecDepth 100000 in
set_option maxHeartbeats 4000000 in
theorem v_G_has (K : av_K p s m args meth c D cl8 ca A b_G_has 2 R_G WS) (G : av_G NS tabON A s s.heap) (hr : meth.sig.returnType = some .boolean) (fu : Nat) {r : Int32 × List va_E} (v0 : Nat) (v1 : Int32) (w : List va_E) (h : f_G_has fu v0 v1 w = some r) : av_VI p l e rm_G_has s m args below meth c D cl8 A ad ca 2 r 0 [some (.ref v0), some (.int v1)] [] w := by
  unfold f_G_has at h
  refine av_iload_n K d_G_has_0 rfl rfl ?_
  refine av_if_lt (tgt := 16) K d_G_has_1 rfl (fun hc => ?_) (fun hc => ?_)
  · rw [if_pos hc] at h
    refine hv_fg (L' := [none, none]) [0, 1] rfl ?_
    exact v_G_has_16 K G hr fu _ h
  · rw [if_neg hc] at h
    refine av_iload_n K d_G_has_4 rfl rfl ?_
    refine av_aload_n K d_G_has_5 rfl rfl ?_
    obtain ⟨x1, ex1, h⟩ := hp_bd h
    refine hv_gi K fl_G_24 d_G_has_6 ex1 ?_
    refine av_icmp_ge (tgt := 16) K d_G_has_9 rfl (fun hc => ?_) (fun hc => ?_)
    · rw [if_pos hc] at h
      refine hv_fg (L' := [none, none]) [0, 1] rfl ?_
      exact v_G_has_16 K G hr fu _ h
    · rw [if_neg hc] at h
      refine av_iconst (v := (1 : Int32)) K d_G_has_12 (by decide) ?_
      refine av_goto (tgt := 17) K d_G_has_13 rfl ?_
      refine hv_fg (L' := [none, none]) [0, 1] rfl ?_
      exact v_G_has_17 K G hr fu ((1 : Int32)) _ h
end
set_option maxRecDepth 100000 in
theorem c_G_has {l : Launch} {D : va_G} {ca : Nat → Nat} {tab : Nat → Int64} {fu : Nat} {v0 : Nat} {v1 : Int32} {w : List va_E} {r : Int32 × List va_E} (h : f_G_has fu v0 v1 w = some r) : av_Ci l D cl8 ca NS tabON y_G_has w_G_has rm_G_has [.ref v0, .int v1] w (fun v u => (v, u) = r) :=
  av_inI (cc := b_G_has) (nL := 2) (by decide +kernel) rfl (Nat.le_of_ble_eq_true rfl) (fun p e s m args below meth c A ad K G hr => v_G_has K G hr fu v0 v1 w h)

-- FaultTreeDesk$Gates.hasCode(I)Z
theorem d_G_hasCode_0 : decode b_G_hasCode 0 = .ok (.iload_n 1, 1) := by decide +kernel
theorem d_G_hasCode_1 : decode b_G_hasCode 1 = .ok (.bipush 16, 2) := by decide +kernel
theorem d_G_hasCode_3 : decode b_G_hasCode 3 = .ok (.if_icmp .lt 18, 3) := by decide +kernel
theorem d_G_hasCode_6 : decode b_G_hasCode 6 = .ok (.iload_n 1, 1) := by decide +kernel
theorem d_G_hasCode_7 : decode b_G_hasCode 7 = .ok (.bipush 16, 2) := by decide +kernel
theorem d_G_hasCode_9 : decode b_G_hasCode 9 = .ok (.aload_n 0, 1) := by decide +kernel
theorem d_G_hasCode_10 : decode b_G_hasCode 10 = .ok (.getfield 24, 3) := by decide +kernel
theorem d_G_hasCode_13 : decode b_G_hasCode 13 = .ok (.iadd, 1) := by decide +kernel
theorem d_G_hasCode_14 : decode b_G_hasCode 14 = .ok (.if_icmp .ge 7, 3) := by decide +kernel
theorem d_G_hasCode_17 : decode b_G_hasCode 17 = .ok (.iconst 1, 1) := by decide +kernel
theorem d_G_hasCode_18 : decode b_G_hasCode 18 = .ok (.goto 4, 3) := by decide +kernel
theorem d_G_hasCode_21 : decode b_G_hasCode 21 = .ok (.iconst 0, 1) := by decide +kernel
theorem d_G_hasCode_22 : decode b_G_hasCode 22 = .ok (.ireturn, 1) := by decide +kernel
def rm_G_hasCode : Room := { frames := 0, cells := 0, slots := 0, locals := 0 }
def f_G_hasCode_22 (fu : Nat) (s0 : Int32) (w : List va_E) : Option (Int32 × List va_E) := (if s0 = 0 ∨ s0 = 1 then some (s0, w) else none)
def f_G_hasCode_21 (fu : Nat) (w : List va_E) : Option (Int32 × List va_E) := (f_G_hasCode_22 fu ((0 : Int32)) w)
def f_G_hasCode (fu : Nat) (v0 : Nat) (v1 : Int32) (w : List va_E) : Option (Int32 × List va_E) := (if v1 < (16 : Int32) then (f_G_hasCode_21 fu w) else ((hp_gi w v0 2 4).bind fun x1 => (if ((16 : Int32) + x1) ≤ v1 then (f_G_hasCode_21 fu w) else (f_G_hasCode_22 fu ((1 : Int32)) w))))
section
variable {p : Program} {l : Launch} {e : Env} {s : State} {m : MethodId} {args : Array Value} {below : List Frame} {meth : Method} {c : Code} {D : va_G} {ca : Nat → Nat} {A : Nat → Prop} {ad : Nat → Nat}
set_option maxRecDepth 100000 in
set_option maxHeartbeats 4000000 in
theorem v_G_hasCode_22 (K : av_K p s m args meth c D cl8 ca A b_G_hasCode 2 R_G WS) (G : av_G NS tabON A s s.heap) (hr : meth.sig.returnType = some .boolean) (fu : Nat) {r : Int32 × List va_E} (s0 : Int32) (w : List va_E) (h : f_G_hasCode_22 fu s0 w = some r) : av_VI p l e rm_G_hasCode s m args below meth c D cl8 A ad ca 2 r 22 [none, none] [.int s0] w := by
  unfold f_G_hasCode_22 at h
  obtain ⟨hz, h⟩ := hp_if h
  obtain rfl := Option.some.inj h
  exact av_zreturn K hr (hp_nz hz) d_G_hasCode_22 rfl
set_option maxRecDepth 100000 in
set_option maxHeartbeats 4000000 in
theorem v_G_hasCode_21 (K : av_K p s m args meth c D cl8 ca A b_G_hasCode 2 R_G WS) (G : av_G NS tabON A s s.heap) (hr : meth.sig.returnType = some .boolean) (fu : Nat) {r : Int32 × List va_E} (w : List va_E) (h : f_G_hasCode_21 fu w = some r) : av_VI p l e rm_G_hasCode s m args below meth c D cl8 A ad ca 2 r 21 [none, none] [] w := by
  unfold f_G_hasCode_21 at h
  refine av_iconst (v := (0 : Int32)) K d_G_hasCode_21 (by decide) ?_
  exact v_G_hasCode_22 K G hr fu ((0 : Int32)) _ h
set_option maxRecDepth 100000 in
set_option maxHeartbeats 4000000 in
theorem v_G_hasCode (K : av_K p s m args meth c D cl8 ca A b_G_hasCode 2 R_G WS) (G : av_G NS tabON A s s.heap) (hr : meth.sig.returnType = some .boolean) (fu : Nat) {r : Int32 × List va_E} (v0 : Nat) (v1 : Int32) (w : List va_E) (h : f_G_hasCode fu v0 v1 w = some r) : av_VI p l e rm_G_hasCode s m args below meth c D cl8 A ad ca 2 r 0 [some (.ref v0), some (.int v1)] [] w := by
  unfold f_G_hasCode at h
  refine av_iload_n K d_G_hasCode_0 rfl rfl ?_
  refine av_bipush (v := (16 : Int32)) K d_G_hasCode_1 (by decide) ?_
  refine av_icmp_lt (tgt := 21) K d_G_hasCode_3 rfl (fun hc => ?_) (fun hc => ?_)
  · rw [if_pos hc] at h
    refine hv_fg (L' := [none, none]) [0, 1] rfl ?_
    exact v_G_hasCode_21 K G hr fu _ h
  · rw [if_neg hc] at h
    refine av_iload_n K d_G_hasCode_6 rfl rfl ?_
    refine av_bipush (v := (16 : Int32)) K d_G_hasCode_7 (by decide) ?_
    refine av_aload_n K d_G_hasCode_9 rfl rfl ?_
    obtain ⟨x1, ex1, h⟩ := hp_bd h
    refine hv_gi K fl_G_24 d_G_hasCode_10 ex1 ?_
    refine av_iadd K d_G_hasCode_13 ?_
    refine av_icmp_ge (tgt := 21) K d_G_hasCode_14 rfl (fun hc => ?_) (fun hc => ?_)
    · rw [if_pos hc] at h
      refine hv_fg (L' := [none, none]) [0, 1] rfl ?_
      exact v_G_hasCode_21 K G hr fu _ h
    · rw [if_neg hc] at h
      refine av_iconst (v := (1 : Int32)) K d_G_hasCode_17 (by decide) ?_
      refine av_goto (tgt := 22) K d_G_hasCode_18 rfl ?_
      refine hv_fg (L' := [none, none]) [0, 1] rfl ?_
      exact v_G_hasCode_22 K G hr fu ((1 : Int32)) _ h
end
set_option maxRecDepth 100000 in
theorem c_G_hasCode {l : Launch} {D : va_G} {ca : Nat → Nat} {tab : Nat → Int64} {fu : Nat} {v0 : Nat} {v1 : Int32} {w : List va_E} {r : Int32 × List va_E} (h : f_G_hasCode fu v0 v1 w = some r) : av_Ci l D cl8 ca NS tabON y_G_hasCode w_G_hasCode rm_G_hasCode [.ref v0, .int v1] w (fun v u => (v, u) = r) :=
  av_inI (cc := b_G_hasCode) (nL := 2) (by decide +kernel) rfl (Nat.le_of_ble_eq_true rfl) (fun p e s m args below meth c A ad K G hr => v_G_hasCode K G hr fu v0 v1 w h)

-- FaultTreeDesk$Gates.add(II)I
theorem d_G_add_0 : decode b_G_add 0 = .ok (.aload_n 0, 1) := by decide +kernel
theorem d_G_add_1 : decode b_G_add 1 = .ok (.getfield 9, 3) := by decide +kernel
theorem d_G_add_4 : decode b_G_add 4 = .ok (.aload_n 0, 1) := by decide +kernel
theorem d_G_add_5 : decode b_G_add 5 = .ok (.getfield 24, 3) := by decide +kernel
theorem d_G_add_8 : decode b_G_add 8 = .ok (.iload_n 1, 1) := by decide +kernel
theorem d_G_add_9 : decode b_G_add 9 = .ok (.iastore, 1) := by decide +kernel
theorem d_G_add_10 : decode b_G_add 10 = .ok (.aload_n 0, 1) := by decide +kernel
theorem d_G_add_11 : decode b_G_add 11 = .ok (.getfield 15, 3) := by decide +kernel
theorem d_G_add_14 : decode b_G_add 14 = .ok (.aload_n 0, 1) := by decide +kernel
theorem d_G_add_15 : decode b_G_add 15 = .ok (.getfield 24, 3) := by decide +kernel
theorem d_G_add_18 : decode b_G_add 18 = .ok (.iload_n 2, 1) := by decide +kernel
theorem d_G_add_19 : decode b_G_add 19 = .ok (.iastore, 1) := by decide +kernel
theorem d_G_add_20 : decode b_G_add 20 = .ok (.aload_n 0, 1) := by decide +kernel
theorem d_G_add_21 : decode b_G_add 21 = .ok (.dup, 1) := by decide +kernel
theorem d_G_add_22 : decode b_G_add 22 = .ok (.getfield 24, 3) := by decide +kernel
theorem d_G_add_25 : decode b_G_add 25 = .ok (.iconst 1, 1) := by decide +kernel
theorem d_G_add_26 : decode b_G_add 26 = .ok (.iadd, 1) := by decide +kernel
theorem d_G_add_27 : decode b_G_add 27 = .ok (.putfield 24, 3) := by decide +kernel
theorem d_G_add_30 : decode b_G_add 30 = .ok (.aload_n 0, 1) := by decide +kernel
theorem d_G_add_31 : decode b_G_add 31 = .ok (.getfield 24, 3) := by decide +kernel
theorem d_G_add_34 : decode b_G_add 34 = .ok (.iconst 1, 1) := by decide +kernel
theorem d_G_add_35 : decode b_G_add 35 = .ok (.isub, 1) := by decide +kernel
theorem d_G_add_36 : decode b_G_add 36 = .ok (.ireturn, 1) := by decide +kernel
def rm_G_add : Room := { frames := 0, cells := 0, slots := 0, locals := 0 }
def f_G_add (fu : Nat) (v0 : Nat) (v1 : Int32) (v2 : Int32) (w : List va_E) : Option (Int32 × List va_E) := ((hp_gr w v0 2 0).bind fun q1 => ((hp_gi w v0 2 4).bind fun x2 => ((hp_wi w q1 x2 v1).bind fun w3 => ((hp_gr w3 v0 2 1).bind fun q4 => ((hp_gi w3 v0 2 4).bind fun x5 => ((hp_wi w3 q4 x5 v2).bind fun w6 => ((hp_gi w6 v0 2 4).bind fun x7 => ((hp_pi w6 v0 2 4 (x7 + (1 : Int32))).bind fun w8 => ((hp_gi w8 v0 2 4).bind fun x9 => (some ((x9 - (1 : Int32)), w8)))))))))))
section
variable {p : Program} {l : Launch} {e : Env} {s : State} {m : MethodId} {args : Array Value} {below : List Frame} {meth : Method} {c : Code} {D : va_G} {ca : Nat → Nat} {A : Nat → Prop} {ad : Nat → Nat}
set_option maxRecDepth 100000 in
set_option maxHeartbeats 4000000 in
theorem v_G_add (K : av_K p s m args meth c D cl8 ca A b_G_add 3 R_G WS) (G : av_G NS tabON A s s.heap) (hr : meth.sig.returnType = some .int) (fu : Nat) {r : Int32 × List va_E} (v0 : Nat) (v1 : Int32) (v2 : Int32) (w : List va_E) (h : f_G_add fu v0 v1 v2 w = some r) : av_VI p l e rm_G_add s m args below meth c D cl8 A ad ca 3 r 0 [some (.ref v0), some (.int v1), some (.int v2)] [] w := by
  unfold f_G_add at h
  refine av_aload_n K d_G_add_0 rfl rfl ?_
  obtain ⟨q1, eq1, h⟩ := hp_bd h
  refine hv_gr K fl_G_9 d_G_add_1 eq1 ?_
  refine av_aload_n K d_G_add_4 rfl rfl ?_
  obtain ⟨x2, ex2, h⟩ := hp_bd h
  refine hv_gi K fl_G_24 d_G_add_5 ex2 ?_
  refine av_iload_n K d_G_add_8 rfl rfl ?_
  obtain ⟨w3, ew3, h⟩ := hp_bd h
  refine hv_wi K d_G_add_9 ew3 ?_
  refine av_aload_n K d_G_add_10 rfl rfl ?_
  obtain ⟨q4, eq4, h⟩ := hp_bd h
  refine hv_gr K fl_G_15 d_G_add_11 eq4 ?_
  refine av_aload_n K d_G_add_14 rfl rfl ?_
  obtain ⟨x5, ex5, h⟩ := hp_bd h
  refine hv_gi K fl_G_24 d_G_add_15 ex5 ?_
  refine av_iload_n K d_G_add_18 rfl rfl ?_
  obtain ⟨w6, ew6, h⟩ := hp_bd h
  refine hv_wi K d_G_add_19 ew6 ?_
  refine av_aload_n K d_G_add_20 rfl rfl ?_
  refine av_dup K d_G_add_21 rfl ?_
  obtain ⟨x7, ex7, h⟩ := hp_bd h
  refine hv_gi K fl_G_24 d_G_add_22 ex7 ?_
  refine av_iconst (v := (1 : Int32)) K d_G_add_25 (by decide) ?_
  refine av_iadd K d_G_add_26 ?_
  obtain ⟨w8, ew8, h⟩ := hp_bd h
  refine hv_pi K fp_G_24 d_G_add_27 ew8 ?_
  refine av_aload_n K d_G_add_30 rfl rfl ?_
  obtain ⟨x9, ex9, h⟩ := hp_bd h
  refine hv_gi K fl_G_24 d_G_add_31 ex9 ?_
  refine av_iconst (v := (1 : Int32)) K d_G_add_34 (by decide) ?_
  refine av_isub K d_G_add_35 ?_
  obtain rfl := Option.some.inj h
  exact av_ireturn K hr d_G_add_36 rfl
end
set_option maxRecDepth 100000 in
theorem c_G_add {l : Launch} {D : va_G} {ca : Nat → Nat} {tab : Nat → Int64} {fu : Nat} {v0 : Nat} {v1 : Int32} {v2 : Int32} {w : List va_E} {r : Int32 × List va_E} (h : f_G_add fu v0 v1 v2 w = some r) : av_Ci l D cl8 ca NS tabON y_G_add w_G_add rm_G_add [.ref v0, .int v1, .int v2] w (fun v u => (v, u) = r) :=
  av_inI (cc := b_G_add) (nL := 3) (by decide +kernel) rfl (Nat.le_of_ble_eq_true rfl) (fun p e s m args below meth c A ad K G hr => v_G_add K G hr fu v0 v1 v2 w h)

-- FaultTreeDesk$Gates.isChild(II)Z
theorem d_G_isChild_0 : decode b_G_isChild 0 = .ok (.aload_n 0, 1) := by decide +kernel
theorem d_G_isChild_1 : decode b_G_isChild 1 = .ok (.getfield 18, 3) := by decide +kernel
theorem d_G_isChild_4 : decode b_G_isChild 4 = .ok (.iload_n 1, 1) := by decide +kernel
theorem d_G_isChild_5 : decode b_G_isChild 5 = .ok (.iaload, 1) := by decide +kernel
theorem d_G_isChild_6 : decode b_G_isChild 6 = .ok (.iload_n 2, 1) := by decide +kernel
theorem d_G_isChild_7 : decode b_G_isChild 7 = .ok (.ishr, 1) := by decide +kernel
theorem d_G_isChild_8 : decode b_G_isChild 8 = .ok (.iconst 1, 1) := by decide +kernel
theorem d_G_isChild_9 : decode b_G_isChild 9 = .ok (.iand, 1) := by decide +kernel
theorem d_G_isChild_10 : decode b_G_isChild 10 = .ok (.ifCond .eq 7, 3) := by decide +kernel
theorem d_G_isChild_13 : decode b_G_isChild 13 = .ok (.iconst 1, 1) := by decide +kernel
theorem d_G_isChild_14 : decode b_G_isChild 14 = .ok (.goto 4, 3) := by decide +kernel
theorem d_G_isChild_17 : decode b_G_isChild 17 = .ok (.iconst 0, 1) := by decide +kernel
theorem d_G_isChild_18 : decode b_G_isChild 18 = .ok (.ireturn, 1) := by decide +kernel
def rm_G_isChild : Room := { frames := 0, cells := 0, slots := 0, locals := 0 }
def f_G_isChild_18 (fu : Nat) (s0 : Int32) (w : List va_E) : Option (Int32 × List va_E) := (if s0 = 0 ∨ s0 = 1 then some (s0, w) else none)
def f_G_isChild (fu : Nat) (v0 : Nat) (v1 : Int32) (v2 : Int32) (w : List va_E) : Option (Int32 × List va_E) := ((hp_gr w v0 2 2).bind fun q1 => ((hp_ri w q1 v1).bind fun x2 => (if ((x2 >>> (v2 &&& 31)) &&& (1 : Int32)) = 0 then (f_G_isChild_18 fu ((0 : Int32)) w) else (f_G_isChild_18 fu ((1 : Int32)) w))))
section
variable {p : Program} {l : Launch} {e : Env} {s : State} {m : MethodId} {args : Array Value} {below : List Frame} {meth : Method} {c : Code} {D : va_G} {ca : Nat → Nat} {A : Nat → Prop} {ad : Nat → Nat}
set_option maxRecDepth 100000 in
set_option maxHeartbeats 4000000 in
theorem v_G_isChild_18 (K : av_K p s m args meth c D cl8 ca A b_G_isChild 3 R_G WS) (G : av_G NS tabON A s s.heap) (hr : meth.sig.returnType = some .boolean) (fu : Nat) {r : Int32 × List va_E} (s0 : Int32) (w : List va_E) (h : f_G_isChild_18 fu s0 w = some r) : av_VI p l e rm_G_isChild s m args below meth c D cl8 A ad ca 3 r 18 [none, none, none] [.int s0] w := by
  unfold f_G_isChild_18 at h
  obtain ⟨hz, h⟩ := hp_if h
  obtain rfl := Option.some.inj h
  exact av_zreturn K hr (hp_nz hz) d_G_isChild_18 rfl
set_option maxRecDepth 100000 in
set_option maxHeartbeats 4000000 in
theorem v_G_isChild (K : av_K p s m args meth c D cl8 ca A b_G_isChild 3 R_G WS) (G : av_G NS tabON A s s.heap) (hr : meth.sig.returnType = some .boolean) (fu : Nat) {r : Int32 × List va_E} (v0 : Nat) (v1 : Int32) (v2 : Int32) (w : List va_E) (h : f_G_isChild fu v0 v1 v2 w = some r) : av_VI p l e rm_G_isChild s m args below meth c D cl8 A ad ca 3 r 0 [some (.ref v0), some (.int v1), some (.int v2)] [] w := by
  unfold f_G_isChild at h
  refine av_aload_n K d_G_isChild_0 rfl rfl ?_
  obtain ⟨q1, eq1, h⟩ := hp_bd h
  refine hv_gr K fl_G_18 d_G_isChild_1 eq1 ?_
  refine av_iload_n K d_G_isChild_4 rfl rfl ?_
  obtain ⟨x2, ex2, h⟩ := hp_bd h
  refine hv_ri K d_G_isChild_5 ex2 ?_
  refine av_iload_n K d_G_isChild_6 rfl rfl ?_
  refine av_ishr K d_G_isChild_7 ?_
  refine av_iconst (v := (1 : Int32)) K d_G_isChild_8 (by decide) ?_
  refine av_iand K d_G_isChild_9 ?_
  refine av_if_eq (tgt := 17) K d_G_isChild_10 rfl (fun hc => ?_) (fun hc => ?_)
  · rw [if_pos hc] at h
    refine av_iconst (v := (0 : Int32)) K d_G_isChild_17 (by decide) ?_
    refine hv_fg (L' := [none, none, none]) [0, 1, 2] rfl ?_
    exact v_G_isChild_18 K G hr fu ((0 : Int32)) _ h
  · rw [if_neg hc] at h
    refine av_iconst (v := (1 : Int32)) K d_G_isChild_13 (by decide) ?_
    refine av_goto (tgt := 18) K d_G_isChild_14 rfl ?_
    refine hv_fg (L' := [none, none, none]) [0, 1, 2] rfl ?_
    exact v_G_isChild_18 K G hr fu ((1 : Int32)) _ h
end
set_option maxRecDepth 100000 in
theorem c_G_isChild {l : Launch} {D : va_G} {ca : Nat → Nat} {tab : Nat → Int64} {fu : Nat} {v0 : Nat} {v1 : Int32} {v2 : Int32} {w : List va_E} {r : Int32 × List va_E} (h : f_G_isChild fu v0 v1 v2 w = some r) : av_Ci l D cl8 ca NS tabON y_G_isChild w_G_isChild rm_G_isChild [.ref v0, .int v1, .int v2] w (fun v u => (v, u) = r) :=
  av_inI (cc := b_G_isChild) (nL := 3) (by decide +kernel) rfl (Nat.le_of_ble_eq_true rfl) (fun p e s m args below meth c A ad K G hr => v_G_isChild K G hr fu v0 v1 v2 w h)

-- FaultTreeDesk$Gates.isFull(I)Z
theorem d_G_isFull_0 : decode b_G_isFull 0 = .ok (.aload_n 0, 1) := by decide +kernel
theorem d_G_isFull_1 : decode b_G_isFull 1 = .ok (.getfield 9, 3) := by decide +kernel
theorem d_G_isFull_4 : decode b_G_isFull 4 = .ok (.iload_n 1, 1) := by decide +kernel
theorem d_G_isFull_5 : decode b_G_isFull 5 = .ok (.iaload, 1) := by decide +kernel
theorem d_G_isFull_6 : decode b_G_isFull 6 = .ok (.iconst 4, 1) := by decide +kernel
theorem d_G_isFull_7 : decode b_G_isFull 7 = .ok (.if_icmp .ne 7, 3) := by decide +kernel
theorem d_G_isFull_10 : decode b_G_isFull 10 = .ok (.iconst 1, 1) := by decide +kernel
theorem d_G_isFull_11 : decode b_G_isFull 11 = .ok (.goto 4, 3) := by decide +kernel
theorem d_G_isFull_14 : decode b_G_isFull 14 = .ok (.iconst 4, 1) := by decide +kernel
theorem d_G_isFull_15 : decode b_G_isFull 15 = .ok (.istore_n 2, 1) := by decide +kernel
theorem d_G_isFull_16 : decode b_G_isFull 16 = .ok (.aload_n 0, 1) := by decide +kernel
theorem d_G_isFull_17 : decode b_G_isFull 17 = .ok (.getfield 18, 3) := by decide +kernel
theorem d_G_isFull_20 : decode b_G_isFull 20 = .ok (.iload_n 1, 1) := by decide +kernel
theorem d_G_isFull_21 : decode b_G_isFull 21 = .ok (.iaload, 1) := by decide +kernel
theorem d_G_isFull_22 : decode b_G_isFull 22 = .ok (.invokestatic 28, 3) := by decide +kernel
theorem d_G_isFull_25 : decode b_G_isFull 25 = .ok (.iload_n 2, 1) := by decide +kernel
theorem d_G_isFull_26 : decode b_G_isFull 26 = .ok (.if_icmp .lt 7, 3) := by decide +kernel
theorem d_G_isFull_29 : decode b_G_isFull 29 = .ok (.iconst 1, 1) := by decide +kernel
theorem d_G_isFull_30 : decode b_G_isFull 30 = .ok (.goto 4, 3) := by decide +kernel
theorem d_G_isFull_33 : decode b_G_isFull 33 = .ok (.iconst 0, 1) := by decide +kernel
theorem d_G_isFull_34 : decode b_G_isFull 34 = .ok (.ireturn, 1) := by decide +kernel
def rm_G_isFull : Room := { frames := 1, cells := 0, slots := 0, locals := 20 }
def f_G_isFull_34 (fu : Nat) (s0 : Int32) (w : List va_E) : Option (Int32 × List va_E) := (if s0 = 0 ∨ s0 = 1 then some (s0, w) else none)
def f_G_isFull_15 (fu : Nat) (v0 : Nat) (v1 : Int32) (s0 : Int32) (w : List va_E) : Option (Int32 × List va_E) := ((hp_gr w v0 2 2).bind fun q1 => ((hp_ri w q1 v1).bind fun x2 => ((f_JI_bitCount fu x2 w).bind fun r3 => (if r3.1 < s0 then (f_G_isFull_34 fu ((0 : Int32)) r3.2) else (f_G_isFull_34 fu ((1 : Int32)) r3.2)))))
def f_G_isFull (fu : Nat) (v0 : Nat) (v1 : Int32) (w : List va_E) : Option (Int32 × List va_E) := ((hp_gr w v0 2 0).bind fun q1 => ((hp_ri w q1 v1).bind fun x2 => (if x2 = (4 : Int32) then (f_G_isFull_15 fu (v0) (v1) ((1 : Int32)) w) else (f_G_isFull_15 fu (v0) (v1) ((4 : Int32)) w))))
section
variable {p : Program} {l : Launch} {e : Env} {s : State} {m : MethodId} {args : Array Value} {below : List Frame} {meth : Method} {c : Code} {D : va_G} {ca : Nat → Nat} {A : Nat → Prop} {ad : Nat → Nat}
set_option maxRecDepth 100000 in
set_option maxHeartbeats 4000000 in
theorem v_G_isFull_34 (K : av_K p s m args meth c D cl8 ca A b_G_isFull 3 R_G WS) (G : av_G NS tabON A s s.heap) (hr : meth.sig.returnType = some .boolean) (fu : Nat) {r : Int32 × List va_E} (s0 : Int32) (w : List va_E) (h : f_G_isFull_34 fu s0 w = some r) : av_VI p l e rm_G_isFull s m args below meth c D cl8 A ad ca 3 r 34 [none, none, none] [.int s0] w := by
  unfold f_G_isFull_34 at h
  obtain ⟨hz, h⟩ := hp_if h
  obtain rfl := Option.some.inj h
  exact av_zreturn K hr (hp_nz hz) d_G_isFull_34 rfl
set_option maxRecDepth 100000 in
set_option maxHeartbeats 4000000 in
theorem v_G_isFull_15 (K : av_K p s m args meth c D cl8 ca A b_G_isFull 3 R_G WS) (G : av_G NS tabON A s s.heap) (hr : meth.sig.returnType = some .boolean) (fu : Nat) {r : Int32 × List va_E} (v0 : Nat) (v1 : Int32) (s0 : Int32) (w : List va_E) (h : f_G_isFull_15 fu v0 v1 s0 w = some r) : av_VI p l e rm_G_isFull s m args below meth c D cl8 A ad ca 3 r 15 [some (.ref v0), some (.int v1), none] [.int s0] w := by
  unfold f_G_isFull_15 at h
  refine av_istore_n (L' := [some (.ref v0), some (.int v1), some (.int s0)]) K d_G_isFull_15 rfl (Nat.le_of_ble_eq_true rfl) rfl ?_
  refine av_aload_n K d_G_isFull_16 rfl rfl ?_
  obtain ⟨q1, eq1, h⟩ := hp_bd h
  refine hv_gr K fl_G_18 d_G_isFull_17 eq1 ?_
  refine av_iload_n K d_G_isFull_20 rfl rfl ?_
  obtain ⟨x2, ex2, h⟩ := hp_bd h
  refine hv_ri K d_G_isFull_21 ex2 ?_
  obtain ⟨r3, er3, h⟩ := hp_bd h
  refine av_cSi K G (c_JI_bitCount (tab := tabON) er3) (va_cwS 1 K.2.2.2.2.1 (gSU ml_G_28 sm_JI_bitCount in_JI co_JI_bitCount) rfl rfl rfl ce_JI_bitCount ⟨Nat.le_of_ble_eq_true rfl, Nat.le_of_ble_eq_true rfl⟩) rfl rfl (Nat.le_of_ble_eq_true rfl) d_G_isFull_22 ⟨Nat.zero_le _, Nat.zero_le _⟩ (fun a9 u9 h9 => ?_)
  obtain ⟨rfl, rfl⟩ : a9 = r3.1 ∧ u9 = r3.2 := ⟨congrArg Prod.fst h9, congrArg Prod.snd h9⟩
  refine av_iload_n K d_G_isFull_25 rfl rfl ?_
  refine av_icmp_lt (tgt := 33) K d_G_isFull_26 rfl (fun hc => ?_) (fun hc => ?_)
  · rw [if_pos hc] at h
    refine av_iconst (v := (0 : Int32)) K d_G_isFull_33 (by decide) ?_
    refine hv_fg (L' := [none, none, none]) [0, 1, 2] rfl ?_
    exact v_G_isFull_34 K G hr fu ((0 : Int32)) _ h
  · rw [if_neg hc] at h
    refine av_iconst (v := (1 : Int32)) K d_G_isFull_29 (by decide) ?_
    refine av_goto (tgt := 34) K d_G_isFull_30 rfl ?_
    refine hv_fg (L' := [none, none, none]) [0, 1, 2] rfl ?_
    exact v_G_isFull_34 K G hr fu ((1 : Int32)) _ h
set_option maxRecDepth 100000 in
set_option maxHeartbeats 4000000 in
theorem v_G_isFull (K : av_K p s m args meth c D cl8 ca A b_G_isFull 3 R_G WS) (G : av_G NS tabON A s s.heap) (hr : meth.sig.returnType = some .boolean) (fu : Nat) {r : Int32 × List va_E} (v0 : Nat) (v1 : Int32) (w : List va_E) (h : f_G_isFull fu v0 v1 w = some r) : av_VI p l e rm_G_isFull s m args below meth c D cl8 A ad ca 3 r 0 [some (.ref v0), some (.int v1), none] [] w := by
  unfold f_G_isFull at h
  refine av_aload_n K d_G_isFull_0 rfl rfl ?_
  obtain ⟨q1, eq1, h⟩ := hp_bd h
  refine hv_gr K fl_G_9 d_G_isFull_1 eq1 ?_
  refine av_iload_n K d_G_isFull_4 rfl rfl ?_
  obtain ⟨x2, ex2, h⟩ := hp_bd h
  refine hv_ri K d_G_isFull_5 ex2 ?_
  refine av_iconst (v := (4 : Int32)) K d_G_isFull_6 (by decide) ?_
  refine av_icmp_ne (tgt := 14) K d_G_isFull_7 rfl (fun hc => ?_) (fun hc => ?_)
  · rw [if_neg hc] at h
    refine av_iconst (v := (4 : Int32)) K d_G_isFull_14 (by decide) ?_
    exact v_G_isFull_15 K G hr fu (v0) (v1) ((4 : Int32)) _ h
  · rw [if_pos hc] at h
    refine av_iconst (v := (1 : Int32)) K d_G_isFull_10 (by decide) ?_
    refine av_goto (tgt := 15) K d_G_isFull_11 rfl ?_
    exact v_G_isFull_15 K G hr fu (v0) (v1) ((1 : Int32)) _ h
end
set_option maxRecDepth 100000 in
theorem c_G_isFull {l : Launch} {D : va_G} {ca : Nat → Nat} {tab : Nat → Int64} {fu : Nat} {v0 : Nat} {v1 : Int32} {w : List va_E} {r : Int32 × List va_E} (h : f_G_isFull fu v0 v1 w = some r) : av_Ci l D cl8 ca NS tabON y_G_isFull w_G_isFull rm_G_isFull [.ref v0, .int v1] w (fun v u => (v, u) = r) :=
  av_inI (cc := b_G_isFull) (nL := 3) (by decide +kernel) rfl (Nat.le_of_ble_eq_true rfl) (fun p e s m args below meth c A ad K G hr => v_G_isFull K G hr fu v0 v1 w h)

-- FaultTreeDesk$Gates.withBelow(I)I
theorem d_G_withBelow_0 : decode b_G_withBelow 0 = .ok (.iconst 1, 1) := by decide +kernel
theorem d_G_withBelow_1 : decode b_G_withBelow 1 = .ok (.iload_n 1, 1) := by decide +kernel
theorem d_G_withBelow_2 : decode b_G_withBelow 2 = .ok (.ishl, 1) := by decide +kernel
theorem d_G_withBelow_3 : decode b_G_withBelow 3 = .ok (.iload_n 1, 1) := by decide +kernel
theorem d_G_withBelow_4 : decode b_G_withBelow 4 = .ok (.bipush 16, 2) := by decide +kernel
theorem d_G_withBelow_6 : decode b_G_withBelow 6 = .ok (.if_icmp .lt 15, 3) := by decide +kernel
theorem d_G_withBelow_9 : decode b_G_withBelow 9 = .ok (.aload_n 0, 1) := by decide +kernel
theorem d_G_withBelow_10 : decode b_G_withBelow 10 = .ok (.getfield 21, 3) := by decide +kernel
theorem d_G_withBelow_13 : decode b_G_withBelow 13 = .ok (.iload_n 1, 1) := by decide +kernel
theorem d_G_withBelow_14 : decode b_G_withBelow 14 = .ok (.bipush 16, 2) := by decide +kernel
theorem d_G_withBelow_16 : decode b_G_withBelow 16 = .ok (.isub, 1) := by decide +kernel
theorem d_G_withBelow_17 : decode b_G_withBelow 17 = .ok (.iaload, 1) := by decide +kernel
theorem d_G_withBelow_18 : decode b_G_withBelow 18 = .ok (.goto 4, 3) := by decide +kernel
theorem d_G_withBelow_21 : decode b_G_withBelow 21 = .ok (.iconst 0, 1) := by decide +kernel
theorem d_G_withBelow_22 : decode b_G_withBelow 22 = .ok (.ior, 1) := by decide +kernel
theorem d_G_withBelow_23 : decode b_G_withBelow 23 = .ok (.ireturn, 1) := by decide +kernel
def rm_G_withBelow : Room := { frames := 0, cells := 0, slots := 0, locals := 0 }
def f_G_withBelow_22 (fu : Nat) (s0 : Int32) (s1 : Int32) (w : List va_E) : Option (Int32 × List va_E) := (some ((s0 ||| s1), w))
def f_G_withBelow (fu : Nat) (v0 : Nat) (v1 : Int32) (w : List va_E) : Option (Int32 × List va_E) := (if v1 < (16 : Int32) then (f_G_withBelow_22 fu (((1 : Int32) <<< (v1 &&& 31))) ((0 : Int32)) w) else ((hp_gr w v0 2 3).bind fun q1 => ((hp_ri w q1 (v1 - (16 : Int32))).bind fun x2 => (f_G_withBelow_22 fu (((1 : Int32) <<< (v1 &&& 31))) (x2) w))))
section
variable {p : Program} {l : Launch} {e : Env} {s : State} {m : MethodId} {args : Array Value} {below : List Frame} {meth : Method} {c : Code} {D : va_G} {ca : Nat → Nat} {A : Nat → Prop} {ad : Nat → Nat}
set_option maxRecDepth 100000 in
set_option maxHeartbeats 4000000 in
theorem v_G_withBelow_22 (K : av_K p s m args meth c D cl8 ca A b_G_withBelow 2 R_G WS) (G : av_G NS tabON A s s.heap) (hr : meth.sig.returnType = some .int) (fu : Nat) {r : Int32 × List va_E} (s0 : Int32) (s1 : Int32) (w : List va_E) (h : f_G_withBelow_22 fu s0 s1 w = some r) : av_VI p l e rm_G_withBelow s m args below meth c D cl8 A ad ca 2 r 22 [none, none] [.int s1, .int s0] w := by
  unfold f_G_withBelow_22 at h
  refine av_ior K d_G_withBelow_22 ?_
  obtain rfl := Option.some.inj h
  exact av_ireturn K hr d_G_withBelow_23 rfl
set_option maxRecDepth 100000 in
set_option maxHeartbeats 4000000 in
theorem v_G_withBelow (K : av_K p s m args meth c D cl8 ca A b_G_withBelow 2 R_G WS) (G : av_G NS tabON A s s.heap) (hr : meth.sig.returnType = some .int) (fu : Nat) {r : Int32 × List va_E} (v0 : Nat) (v1 : Int32) (w : List va_E) (h : f_G_withBelow fu v0 v1 w = some r) : av_VI p l e rm_G_withBelow s m args below meth c D cl8 A ad ca 2 r 0 [some (.ref v0), some (.int v1)] [] w := by
  unfold f_G_withBelow at h
  refine av_iconst (v := (1 : Int32)) K d_G_withBelow_0 (by decide) ?_
  refine av_iload_n K d_G_withBelow_1 rfl rfl ?_
  refine av_ishl K d_G_withBelow_2 ?_
  refine av_iload_n K d_G_withBelow_3 rfl rfl ?_
  refine av_bipush (v := (16 : Int32)) K d_G_withBelow_4 (by decide) ?_
  refine av_icmp_lt (tgt := 21) K d_G_withBelow_6 rfl (fun hc => ?_) (fun hc => ?_)
  · rw [if_pos hc] at h
    refine av_iconst (v := (0 : Int32)) K d_G_withBelow_21 (by decide) ?_
    refine hv_fg (L' := [none, none]) [0, 1] rfl ?_
    exact v_G_withBelow_22 K G hr fu (((1 : Int32) <<< (v1 &&& 31))) ((0 : Int32)) _ h
  · rw [if_neg hc] at h
    refine av_aload_n K d_G_withBelow_9 rfl rfl ?_
    obtain ⟨q1, eq1, h⟩ := hp_bd h
    refine hv_gr K fl_G_21 d_G_withBelow_10 eq1 ?_
    refine av_iload_n K d_G_withBelow_13 rfl rfl ?_
    refine av_bipush (v := (16 : Int32)) K d_G_withBelow_14 (by decide) ?_
    refine av_isub K d_G_withBelow_16 ?_
    obtain ⟨x2, ex2, h⟩ := hp_bd h
    refine hv_ri K d_G_withBelow_17 ex2 ?_
    refine av_goto (tgt := 22) K d_G_withBelow_18 rfl ?_
    refine hv_fg (L' := [none, none]) [0, 1] rfl ?_
    exact v_G_withBelow_22 K G hr fu (((1 : Int32) <<< (v1 &&& 31))) (x2) _ h
end
set_option maxRecDepth 100000 in
theorem c_G_withBelow {l : Launch} {D : va_G} {ca : Nat → Nat} {tab : Nat → Int64} {fu : Nat} {v0 : Nat} {v1 : Int32} {w : List va_E} {r : Int32 × List va_E} (h : f_G_withBelow fu v0 v1 w = some r) : av_Ci l D cl8 ca NS tabON y_G_withBelow w_G_withBelow rm_G_withBelow [.ref v0, .int v1] w (fun v u => (v, u) = r) :=
  av_inI (cc := b_G_withBelow) (nL := 2) (by decide +kernel) rfl (Nat.le_of_ble_eq_true rfl) (fun p e s m args below meth c A ad K G hr => v_G_withBelow K G hr fu v0 v1 w h)

-- FaultTreeDesk$Gates.wouldLoop(II)Z
theorem d_G_wouldLoop_0 : decode b_G_wouldLoop 0 = .ok (.aload_n 0, 1) := by decide +kernel
theorem d_G_wouldLoop_1 : decode b_G_wouldLoop 1 = .ok (.iload_n 2, 1) := by decide +kernel
theorem d_G_wouldLoop_2 : decode b_G_wouldLoop 2 = .ok (.invokevirtual 34, 3) := by decide +kernel
theorem d_G_wouldLoop_5 : decode b_G_wouldLoop 5 = .ok (.bipush 16, 2) := by decide +kernel
theorem d_G_wouldLoop_7 : decode b_G_wouldLoop 7 = .ok (.iload_n 1, 1) := by decide +kernel
theorem d_G_wouldLoop_8 : decode b_G_wouldLoop 8 = .ok (.iadd, 1) := by decide +kernel
theorem d_G_wouldLoop_9 : decode b_G_wouldLoop 9 = .ok (.ishr, 1) := by decide +kernel
theorem d_G_wouldLoop_10 : decode b_G_wouldLoop 10 = .ok (.iconst 1, 1) := by decide +kernel
theorem d_G_wouldLoop_11 : decode b_G_wouldLoop 11 = .ok (.iand, 1) := by decide +kernel
theorem d_G_wouldLoop_12 : decode b_G_wouldLoop 12 = .ok (.ifCond .eq 7, 3) := by decide +kernel
theorem d_G_wouldLoop_15 : decode b_G_wouldLoop 15 = .ok (.iconst 1, 1) := by decide +kernel
theorem d_G_wouldLoop_16 : decode b_G_wouldLoop 16 = .ok (.goto 4, 3) := by decide +kernel
theorem d_G_wouldLoop_19 : decode b_G_wouldLoop 19 = .ok (.iconst 0, 1) := by decide +kernel
theorem d_G_wouldLoop_20 : decode b_G_wouldLoop 20 = .ok (.ireturn, 1) := by decide +kernel
def rm_G_wouldLoop : Room := { frames := 1, cells := 0, slots := 0, locals := 21 }
def f_G_wouldLoop_20 (fu : Nat) (s0 : Int32) (w : List va_E) : Option (Int32 × List va_E) := (if s0 = 0 ∨ s0 = 1 then some (s0, w) else none)
def f_G_wouldLoop (fu : Nat) (v0 : Nat) (v1 : Int32) (v2 : Int32) (w : List va_E) : Option (Int32 × List va_E) := ((hp_is w v0 2).bind fun _ => ((f_G_withBelow fu v0 v2 w).bind fun r1 => (if ((r1.1 >>> (((16 : Int32) + v1) &&& 31)) &&& (1 : Int32)) = 0 then (f_G_wouldLoop_20 fu ((0 : Int32)) r1.2) else (f_G_wouldLoop_20 fu ((1 : Int32)) r1.2))))
section
variable {p : Program} {l : Launch} {e : Env} {s : State} {m : MethodId} {args : Array Value} {below : List Frame} {meth : Method} {c : Code} {D : va_G} {ca : Nat → Nat} {A : Nat → Prop} {ad : Nat → Nat}
set_option maxRecDepth 100000 in
set_option maxHeartbeats 4000000 in
theorem v_G_wouldLoop_20 (K : av_K p s m args meth c D cl8 ca A b_G_wouldLoop 3 R_G WS) (G : av_G NS tabON A s s.heap) (hr : meth.sig.returnType = some .boolean) (fu : Nat) {r : Int32 × List va_E} (s0 : Int32) (w : List va_E) (h : f_G_wouldLoop_20 fu s0 w = some r) : av_VI p l e rm_G_wouldLoop s m args below meth c D cl8 A ad ca 3 r 20 [none, none, none] [.int s0] w := by
  unfold f_G_wouldLoop_20 at h
  obtain ⟨hz, h⟩ := hp_if h
  obtain rfl := Option.some.inj h
  exact av_zreturn K hr (hp_nz hz) d_G_wouldLoop_20 rfl
set_option maxRecDepth 100000 in
set_option maxHeartbeats 4000000 in
theorem v_G_wouldLoop (K : av_K p s m args meth c D cl8 ca A b_G_wouldLoop 3 R_G WS) (G : av_G NS tabON A s s.heap) (hr : meth.sig.returnType = some .boolean) (fu : Nat) {r : Int32 × List va_E} (v0 : Nat) (v1 : Int32) (v2 : Int32) (w : List va_E) (h : f_G_wouldLoop fu v0 v1 v2 w = some r) : av_VI p l e rm_G_wouldLoop s m args below meth c D cl8 A ad ca 3 r 0 [some (.ref v0), some (.int v1), some (.int v2)] [] w := by
  unfold f_G_wouldLoop at h
  refine av_aload_n K d_G_wouldLoop_0 rfl rfl ?_
  refine av_iload_n K d_G_wouldLoop_1 rfl rfl ?_
  obtain ⟨_, eo2, h⟩ := hp_bd h
  obtain ⟨r1, er1, h⟩ := hp_bd h
  obtain ⟨fs2, ho2⟩ := hp_is_of eo2
  refine av_cVi K G (c_G_withBelow (tab := tabON) er1) (cwV 1 K.2.2.2.2.1 (gV ml_G_34 im_G_withBelow se_G_withBelow in_G co_G_withBelow) rfl rfl rfl cd_G_withBelow ⟨Nat.le_of_ble_eq_true rfl, Nat.le_of_ble_eq_true rfl⟩) rfl ho2 rfl rfl (Nat.le_of_ble_eq_true rfl) d_G_wouldLoop_2 ⟨Nat.zero_le _, Nat.zero_le _⟩ (fun a9 u9 h9 => ?_)
  obtain ⟨rfl, rfl⟩ : a9 = r1.1 ∧ u9 = r1.2 := ⟨congrArg Prod.fst h9, congrArg Prod.snd h9⟩
  refine av_bipush (v := (16 : Int32)) K d_G_wouldLoop_5 (by decide) ?_
  refine av_iload_n K d_G_wouldLoop_7 rfl rfl ?_
  refine av_iadd K d_G_wouldLoop_8 ?_
  refine av_ishr K d_G_wouldLoop_9 ?_
  refine av_iconst (v := (1 : Int32)) K d_G_wouldLoop_10 (by decide) ?_
  refine av_iand K d_G_wouldLoop_11 ?_
  refine av_if_eq (tgt := 19) K d_G_wouldLoop_12 rfl (fun hc => ?_) (fun hc => ?_)
  · rw [if_pos hc] at h
    refine av_iconst (v := (0 : Int32)) K d_G_wouldLoop_19 (by decide) ?_
    refine hv_fg (L' := [none, none, none]) [0, 1, 2] rfl ?_
    exact v_G_wouldLoop_20 K G hr fu ((0 : Int32)) _ h
  · rw [if_neg hc] at h
    refine av_iconst (v := (1 : Int32)) K d_G_wouldLoop_15 (by decide) ?_
    refine av_goto (tgt := 20) K d_G_wouldLoop_16 rfl ?_
    refine hv_fg (L' := [none, none, none]) [0, 1, 2] rfl ?_
    exact v_G_wouldLoop_20 K G hr fu ((1 : Int32)) _ h
end
set_option maxRecDepth 100000 in
theorem c_G_wouldLoop {l : Launch} {D : va_G} {ca : Nat → Nat} {tab : Nat → Int64} {fu : Nat} {v0 : Nat} {v1 : Int32} {v2 : Int32} {w : List va_E} {r : Int32 × List va_E} (h : f_G_wouldLoop fu v0 v1 v2 w = some r) : av_Ci l D cl8 ca NS tabON y_G_wouldLoop w_G_wouldLoop rm_G_wouldLoop [.ref v0, .int v1, .int v2] w (fun v u => (v, u) = r) :=
  av_inI (cc := b_G_wouldLoop) (nL := 3) (by decide +kernel) rfl (Nat.le_of_ble_eq_true rfl) (fun p e s m args below meth c A ad K G hr => v_G_wouldLoop K G hr fu v0 v1 v2 w h)

-- FaultTreeDesk$Gates.join(II)I
theorem d_G_join_0 : decode b_G_join 0 = .ok (.aload_n 0, 1) := by decide +kernel
theorem d_G_join_1 : decode b_G_join 1 = .ok (.getfield 18, 3) := by decide +kernel
theorem d_G_join_4 : decode b_G_join 4 = .ok (.iload_n 1, 1) := by decide +kernel
theorem d_G_join_5 : decode b_G_join 5 = .ok (.dup2, 1) := by decide +kernel
theorem d_G_join_6 : decode b_G_join 6 = .ok (.iaload, 1) := by decide +kernel
theorem d_G_join_7 : decode b_G_join 7 = .ok (.iconst 1, 1) := by decide +kernel
theorem d_G_join_8 : decode b_G_join 8 = .ok (.iload_n 2, 1) := by decide +kernel
theorem d_G_join_9 : decode b_G_join 9 = .ok (.ishl, 1) := by decide +kernel
theorem d_G_join_10 : decode b_G_join 10 = .ok (.ior, 1) := by decide +kernel
theorem d_G_join_11 : decode b_G_join 11 = .ok (.iastore, 1) := by decide +kernel
theorem d_G_join_12 : decode b_G_join 12 = .ok (.aload_n 0, 1) := by decide +kernel
theorem d_G_join_13 : decode b_G_join 13 = .ok (.iload_n 2, 1) := by decide +kernel
theorem d_G_join_14 : decode b_G_join 14 = .ok (.invokevirtual 34, 3) := by decide +kernel
theorem d_G_join_17 : decode b_G_join 17 = .ok (.istore_n 3, 1) := by decide +kernel
theorem d_G_join_18 : decode b_G_join 18 = .ok (.iconst 0, 1) := by decide +kernel
theorem d_G_join_19 : decode b_G_join 19 = .ok (.istore 4, 2) := by decide +kernel
theorem d_G_join_21 : decode b_G_join 21 = .ok (.iload 4, 2) := by decide +kernel
theorem d_G_join_23 : decode b_G_join 23 = .ok (.aload_n 0, 1) := by decide +kernel
theorem d_G_join_24 : decode b_G_join 24 = .ok (.getfield 24, 3) := by decide +kernel
theorem d_G_join_27 : decode b_G_join 27 = .ok (.if_icmp .ge 39, 3) := by decide +kernel
theorem d_G_join_30 : decode b_G_join 30 = .ok (.aload_n 0, 1) := by decide +kernel
theorem d_G_join_31 : decode b_G_join 31 = .ok (.bipush 16, 2) := by decide +kernel
theorem d_G_join_33 : decode b_G_join 33 = .ok (.iload 4, 2) := by decide +kernel
theorem d_G_join_35 : decode b_G_join 35 = .ok (.iadd, 1) := by decide +kernel
theorem d_G_join_36 : decode b_G_join 36 = .ok (.invokevirtual 34, 3) := by decide +kernel
theorem d_G_join_39 : decode b_G_join 39 = .ok (.bipush 16, 2) := by decide +kernel
theorem d_G_join_41 : decode b_G_join 41 = .ok (.iload_n 1, 1) := by decide +kernel
theorem d_G_join_42 : decode b_G_join 42 = .ok (.iadd, 1) := by decide +kernel
theorem d_G_join_43 : decode b_G_join 43 = .ok (.ishr, 1) := by decide +kernel
theorem d_G_join_44 : decode b_G_join 44 = .ok (.iconst 1, 1) := by decide +kernel
theorem d_G_join_45 : decode b_G_join 45 = .ok (.iand, 1) := by decide +kernel
theorem d_G_join_46 : decode b_G_join 46 = .ok (.ifCond .eq 14, 3) := by decide +kernel
theorem d_G_join_49 : decode b_G_join 49 = .ok (.aload_n 0, 1) := by decide +kernel
theorem d_G_join_50 : decode b_G_join 50 = .ok (.getfield 21, 3) := by decide +kernel
theorem d_G_join_53 : decode b_G_join 53 = .ok (.iload 4, 2) := by decide +kernel
theorem d_G_join_55 : decode b_G_join 55 = .ok (.dup2, 1) := by decide +kernel
theorem d_G_join_56 : decode b_G_join 56 = .ok (.iaload, 1) := by decide +kernel
theorem d_G_join_57 : decode b_G_join 57 = .ok (.iload_n 3, 1) := by decide +kernel
theorem d_G_join_58 : decode b_G_join 58 = .ok (.ior, 1) := by decide +kernel
theorem d_G_join_59 : decode b_G_join 59 = .ok (.iastore, 1) := by decide +kernel
theorem d_G_join_60 : decode b_G_join 60 = .ok (.iinc 4 1, 3) := by decide +kernel
theorem d_G_join_63 : decode b_G_join 63 = .ok (.goto (-42), 3) := by decide +kernel
theorem d_G_join_66 : decode b_G_join 66 = .ok (.aload_n 0, 1) := by decide +kernel
theorem d_G_join_67 : decode b_G_join 67 = .ok (.getfield 18, 3) := by decide +kernel
theorem d_G_join_70 : decode b_G_join 70 = .ok (.iload_n 1, 1) := by decide +kernel
theorem d_G_join_71 : decode b_G_join 71 = .ok (.iaload, 1) := by decide +kernel
theorem d_G_join_72 : decode b_G_join 72 = .ok (.invokestatic 28, 3) := by decide +kernel
theorem d_G_join_75 : decode b_G_join 75 = .ok (.ireturn, 1) := by decide +kernel
def rm_G_join : Room := { frames := 1, cells := 0, slots := 0, locals := 21 }
def f_G_join_60 (fu : Nat) (k21 : Nat → Int32 → Int32 → Int32 → List va_E → Option (Int32 × List va_E)) (v0 : Nat) (v1 : Int32) (v3 : Int32) (v4 : Int32) (w : List va_E) : Option (Int32 × List va_E) := (k21 (v0) (v1) (v3) ((v4 + (1 : Int32))) w)
def f_G_join_21 (fu : Nat) : Nat → Nat → Int32 → Int32 → Int32 → List va_E → Option (Int32 × List va_E)
  | 0, _, _, _, _, _ => none
  | n + 1, v0, v1, v3, v4, w => ((hp_gi w v0 2 4).bind fun x1 => (if x1 ≤ v4 then ((hp_gr w v0 2 2).bind fun q2 => ((hp_ri w q2 v1).bind fun x3 => ((f_JI_bitCount fu x3 w).bind fun r4 => (some (r4.1, r4.2))))) else ((hp_is w v0 2).bind fun _ => ((f_G_withBelow fu v0 ((16 : Int32) + v4) w).bind fun r5 => (if ((r5.1 >>> (((16 : Int32) + v1) &&& 31)) &&& (1 : Int32)) = 0 then (f_G_join_60 fu (f_G_join_21 fu n) (v0) (v1) (v3) (v4) r5.2) else ((hp_gr r5.2 v0 2 3).bind fun q6 => ((hp_ri r5.2 q6 v4).bind fun x7 => ((hp_wi r5.2 q6 v4 (x7 ||| v3)).bind fun w8 => (f_G_join_60 fu (f_G_join_21 fu n) (v0) (v1) (v3) (v4) w8)))))))))
def f_G_join (fu : Nat) (v0 : Nat) (v1 : Int32) (v2 : Int32) (w : List va_E) : Option (Int32 × List va_E) := ((hp_gr w v0 2 2).bind fun q1 => ((hp_ri w q1 v1).bind fun x2 => ((hp_wi w q1 v1 (x2 ||| ((1 : Int32) <<< (v2 &&& 31)))).bind fun w3 => ((hp_is w3 v0 2).bind fun _ => ((f_G_withBelow fu v0 v2 w3).bind fun r4 => (f_G_join_21 fu fu (v0) (v1) (r4.1) ((0 : Int32)) r4.2))))))
section
variable {p : Program} {l : Launch} {e : Env} {s : State} {m : MethodId} {args : Array Value} {below : List Frame} {meth : Method} {c : Code} {D : va_G} {ca : Nat → Nat} {A : Nat → Prop} {ad : Nat → Nat}
set_option maxRecDepth 100000 in
set_option maxHeartbeats 4000000 in
theorem v_G_join_60 (K : av_K p s m args meth c D cl8 ca A b_G_join 5 R_G WS) (G : av_G NS tabON A s s.heap) (hr : meth.sig.returnType = some .int) (fu : Nat) {r : Int32 × List va_E} (k21 : Nat → Int32 → Int32 → Int32 → List va_E → Option (Int32 × List va_E)) (hk21 : ∀ (v0 : Nat) (v1 : Int32) (v3 : Int32) (v4 : Int32) (w : List va_E), k21 v0 v1 v3 v4 w = some r → av_VI p l e rm_G_join s m args below meth c D cl8 A ad ca 5 r 21 [some (.ref v0), some (.int v1), none, some (.int v3), some (.int v4)] [] w) (v0 : Nat) (v1 : Int32) (v3 : Int32) (v4 : Int32) (w : List va_E) (h : f_G_join_60 fu k21 v0 v1 v3 v4 w = some r) : av_VI p l e rm_G_join s m args below meth c D cl8 A ad ca 5 r 60 [some (.ref v0), some (.int v1), none, some (.int v3), some (.int v4)] [] w := by
  unfold f_G_join_60 at h
  refine av_iinc (v := (v4 + (1 : Int32))) (L' := [some (.ref v0), some (.int v1), none, some (.int v3), some (.int (v4 + (1 : Int32)))]) K d_G_join_60 rfl (congrArg (fun z => v4 + z) (show Int32.ofInt 1 = (1 : Int32) by decide)) (Nat.le_of_ble_eq_true rfl) rfl ?_
  refine av_goto (tgt := 21) K d_G_join_63 rfl ?_
  exact hk21 (v0) (v1) (v3) ((v4 + (1 : Int32))) _ h
set_option maxRecDepth 100000 in
set_option maxHeartbeats 4000000 in
theorem v_G_join_21 (K : av_K p s m args meth c D cl8 ca A b_G_join 5 R_G WS) (G : av_G NS tabON A s s.heap) (hr : meth.sig.returnType = some .int) (fu : Nat) {r : Int32 × List va_E} : ∀ (n : Nat) (v0 : Nat) (v1 : Int32) (v3 : Int32) (v4 : Int32) (w : List va_E), f_G_join_21 fu n v0 v1 v3 v4 w = some r → av_VI p l e rm_G_join s m args below meth c D cl8 A ad ca 5 r 21 [some (.ref v0), some (.int v1), none, some (.int v3), some (.int v4)] [] w := by
  intro n
  induction n with
  | zero => intro _ _ _ _ _ h; cases h
  | succ n ih =>
    intro v0 v1 v3 v4 w h
    unfold f_G_join_21 at h
    refine av_iload K d_G_join_21 rfl ?_
    refine av_aload_n K d_G_join_23 rfl rfl ?_
    obtain ⟨x1, ex1, h⟩ := hp_bd h
    refine hv_gi K fl_G_24 d_G_join_24 ex1 ?_
    refine av_icmp_ge (tgt := 66) K d_G_join_27 rfl (fun hc => ?_) (fun hc => ?_)
    · rw [if_pos hc] at h
      refine av_aload_n K d_G_join_66 rfl rfl ?_
      obtain ⟨q2, eq2, h⟩ := hp_bd h
      refine hv_gr K fl_G_18 d_G_join_67 eq2 ?_
      refine av_iload_n K d_G_join_70 rfl rfl ?_
      obtain ⟨x3, ex3, h⟩ := hp_bd h
      refine hv_ri K d_G_join_71 ex3 ?_
      obtain ⟨r4, er4, h⟩ := hp_bd h
      refine av_cSi K G (c_JI_bitCount (tab := tabON) er4) (va_cwS 1 K.2.2.2.2.1 (gSU ml_G_28 sm_JI_bitCount in_JI co_JI_bitCount) rfl rfl rfl ce_JI_bitCount ⟨Nat.le_of_ble_eq_true rfl, Nat.le_of_ble_eq_true rfl⟩) rfl rfl (Nat.le_of_ble_eq_true rfl) d_G_join_72 ⟨Nat.zero_le _, Nat.zero_le _⟩ (fun a9 u9 h9 => ?_)
      obtain ⟨rfl, rfl⟩ : a9 = r4.1 ∧ u9 = r4.2 := ⟨congrArg Prod.fst h9, congrArg Prod.snd h9⟩
      obtain rfl := Option.some.inj h
      exact av_ireturn K hr d_G_join_75 rfl
    · rw [if_neg hc] at h
      refine av_aload_n K d_G_join_30 rfl rfl ?_
      refine av_bipush (v := (16 : Int32)) K d_G_join_31 (by decide) ?_
      refine av_iload K d_G_join_33 rfl ?_
      refine av_iadd K d_G_join_35 ?_
      obtain ⟨_, eo36, h⟩ := hp_bd h
      obtain ⟨r5, er5, h⟩ := hp_bd h
      obtain ⟨fs36, ho36⟩ := hp_is_of eo36
      refine av_cVi K G (c_G_withBelow (tab := tabON) er5) (cwV 1 K.2.2.2.2.1 (gV ml_G_34 im_G_withBelow se_G_withBelow in_G co_G_withBelow) rfl rfl rfl cd_G_withBelow ⟨Nat.le_of_ble_eq_true rfl, Nat.le_of_ble_eq_true rfl⟩) rfl ho36 rfl rfl (Nat.le_of_ble_eq_true rfl) d_G_join_36 ⟨Nat.zero_le _, Nat.zero_le _⟩ (fun a9 u9 h9 => ?_)
      obtain ⟨rfl, rfl⟩ : a9 = r5.1 ∧ u9 = r5.2 := ⟨congrArg Prod.fst h9, congrArg Prod.snd h9⟩
      refine av_bipush (v := (16 : Int32)) K d_G_join_39 (by decide) ?_
      refine av_iload_n K d_G_join_41 rfl rfl ?_
      refine av_iadd K d_G_join_42 ?_
      refine av_ishr K d_G_join_43 ?_
      refine av_iconst (v := (1 : Int32)) K d_G_join_44 (by decide) ?_
      refine av_iand K d_G_join_45 ?_
      refine av_if_eq (tgt := 60) K d_G_join_46 rfl (fun hc => ?_) (fun hc => ?_)
      · rw [if_pos hc] at h
        exact v_G_join_60 K G hr fu (f_G_join_21 fu n) ih (v0) (v1) (v3) (v4) _ h
      · rw [if_neg hc] at h
        refine av_aload_n K d_G_join_49 rfl rfl ?_
        obtain ⟨q6, eq6, h⟩ := hp_bd h
        refine hv_gr K fl_G_21 d_G_join_50 eq6 ?_
        refine av_iload K d_G_join_53 rfl ?_
        refine av_dup2 K d_G_join_55 rfl rfl ?_
        obtain ⟨x7, ex7, h⟩ := hp_bd h
        refine hv_ri K d_G_join_56 ex7 ?_
        refine av_iload_n K d_G_join_57 rfl rfl ?_
        refine av_ior K d_G_join_58 ?_
        obtain ⟨w8, ew8, h⟩ := hp_bd h
        refine hv_wi K d_G_join_59 ew8 ?_
        exact v_G_join_60 K G hr fu (f_G_join_21 fu n) ih (v0) (v1) (v3) (v4) _ h
set_option maxRecDepth 100000 in
set_option maxHeartbeats 4000000 in
theorem v_G_join (K : av_K p s m args meth c D cl8 ca A b_G_join 5 R_G WS) (G : av_G NS tabON A s s.heap) (hr : meth.sig.returnType = some .int) (fu : Nat) {r : Int32 × List va_E} (v0 : Nat) (v1 : Int32) (v2 : Int32) (w : List va_E) (h : f_G_join fu v0 v1 v2 w = some r) : av_VI p l e rm_G_join s m args below meth c D cl8 A ad ca 5 r 0 [some (.ref v0), some (.int v1), some (.int v2), none, none] [] w := by
  unfold f_G_join at h
  refine av_aload_n K d_G_join_0 rfl rfl ?_
  obtain ⟨q1, eq1, h⟩ := hp_bd h
  refine hv_gr K fl_G_18 d_G_join_1 eq1 ?_
  refine av_iload_n K d_G_join_4 rfl rfl ?_
  refine av_dup2 K d_G_join_5 rfl rfl ?_
  obtain ⟨x2, ex2, h⟩ := hp_bd h
  refine hv_ri K d_G_join_6 ex2 ?_
  refine av_iconst (v := (1 : Int32)) K d_G_join_7 (by decide) ?_
  refine av_iload_n K d_G_join_8 rfl rfl ?_
  refine av_ishl K d_G_join_9 ?_
  refine av_ior K d_G_join_10 ?_
  obtain ⟨w3, ew3, h⟩ := hp_bd h
  refine hv_wi K d_G_join_11 ew3 ?_
  refine av_aload_n K d_G_join_12 rfl rfl ?_
  refine av_iload_n K d_G_join_13 rfl rfl ?_
  obtain ⟨_, eo14, h⟩ := hp_bd h
  obtain ⟨r4, er4, h⟩ := hp_bd h
  obtain ⟨fs14, ho14⟩ := hp_is_of eo14
  refine av_cVi K G (c_G_withBelow (tab := tabON) er4) (cwV 1 K.2.2.2.2.1 (gV ml_G_34 im_G_withBelow se_G_withBelow in_G co_G_withBelow) rfl rfl rfl cd_G_withBelow ⟨Nat.le_of_ble_eq_true rfl, Nat.le_of_ble_eq_true rfl⟩) rfl ho14 rfl rfl (Nat.le_of_ble_eq_true rfl) d_G_join_14 ⟨Nat.zero_le _, Nat.zero_le _⟩ (fun a9 u9 h9 => ?_)
  obtain ⟨rfl, rfl⟩ : a9 = r4.1 ∧ u9 = r4.2 := ⟨congrArg Prod.fst h9, congrArg Prod.snd h9⟩
  refine av_istore_n (L' := [some (.ref v0), some (.int v1), some (.int v2), some (.int r4.1), none]) K d_G_join_17 rfl (Nat.le_of_ble_eq_true rfl) rfl ?_
  refine av_iconst (v := (0 : Int32)) K d_G_join_18 (by decide) ?_
  refine av_istore (L' := [some (.ref v0), some (.int v1), some (.int v2), some (.int r4.1), some (.int (0 : Int32))]) K d_G_join_19 (Nat.le_of_ble_eq_true rfl) rfl ?_
  refine hv_fg (L' := [some (.ref v0), some (.int v1), none, some (.int r4.1), some (.int (0 : Int32))]) [2] rfl ?_
  exact v_G_join_21 K G hr fu fu (v0) (v1) (r4.1) ((0 : Int32)) _ h
end
set_option maxRecDepth 100000 in
theorem c_G_join {l : Launch} {D : va_G} {ca : Nat → Nat} {tab : Nat → Int64} {fu : Nat} {v0 : Nat} {v1 : Int32} {v2 : Int32} {w : List va_E} {r : Int32 × List va_E} (h : f_G_join fu v0 v1 v2 w = some r) : av_Ci l D cl8 ca NS tabON y_G_join w_G_join rm_G_join [.ref v0, .int v1, .int v2] w (fun v u => (v, u) = r) :=
  av_inI (cc := b_G_join) (nL := 5) (by decide +kernel) rfl (Nat.le_of_ble_eq_true rfl) (fun p e s m args below meth c A ad K G hr => v_G_join K G hr fu v0 v1 v2 w h)

-- FaultTreeDesk$Gates.standsAlone(II)Z
theorem d_G_standsAlone_0 : decode b_G_standsAlone 0 = .ok (.iload_n 2, 1) := by decide +kernel
theorem d_G_standsAlone_1 : decode b_G_standsAlone 1 = .ok (.aload_n 0, 1) := by decide +kernel
theorem d_G_standsAlone_2 : decode b_G_standsAlone 2 = .ok (.bipush 16, 2) := by decide +kernel
theorem d_G_standsAlone_4 : decode b_G_standsAlone 4 = .ok (.iload_n 1, 1) := by decide +kernel
theorem d_G_standsAlone_5 : decode b_G_standsAlone 5 = .ok (.iadd, 1) := by decide +kernel
theorem d_G_standsAlone_6 : decode b_G_standsAlone 6 = .ok (.invokevirtual 34, 3) := by decide +kernel
theorem d_G_standsAlone_9 : decode b_G_standsAlone 9 = .ok (.iconst (-1), 1) := by decide +kernel
theorem d_G_standsAlone_10 : decode b_G_standsAlone 10 = .ok (.ixor, 1) := by decide +kernel
theorem d_G_standsAlone_11 : decode b_G_standsAlone 11 = .ok (.iand, 1) := by decide +kernel
theorem d_G_standsAlone_12 : decode b_G_standsAlone 12 = .ok (.istore_n 3, 1) := by decide +kernel
theorem d_G_standsAlone_13 : decode b_G_standsAlone 13 = .ok (.iconst 0, 1) := by decide +kernel
theorem d_G_standsAlone_14 : decode b_G_standsAlone 14 = .ok (.istore 4, 2) := by decide +kernel
theorem d_G_standsAlone_16 : decode b_G_standsAlone 16 = .ok (.iload 4, 2) := by decide +kernel
theorem d_G_standsAlone_18 : decode b_G_standsAlone 18 = .ok (.aload_n 0, 1) := by decide +kernel
theorem d_G_standsAlone_19 : decode b_G_standsAlone 19 = .ok (.getfield 24, 3) := by decide +kernel
theorem d_G_standsAlone_22 : decode b_G_standsAlone 22 = .ok (.if_icmp .ge 40, 3) := by decide +kernel
theorem d_G_standsAlone_25 : decode b_G_standsAlone 25 = .ok (.iload_n 3, 1) := by decide +kernel
theorem d_G_standsAlone_26 : decode b_G_standsAlone 26 = .ok (.bipush 16, 2) := by decide +kernel
theorem d_G_standsAlone_28 : decode b_G_standsAlone 28 = .ok (.iload 4, 2) := by decide +kernel
theorem d_G_standsAlone_30 : decode b_G_standsAlone 30 = .ok (.iadd, 1) := by decide +kernel
theorem d_G_standsAlone_31 : decode b_G_standsAlone 31 = .ok (.ishr, 1) := by decide +kernel
theorem d_G_standsAlone_32 : decode b_G_standsAlone 32 = .ok (.iconst 1, 1) := by decide +kernel
theorem d_G_standsAlone_33 : decode b_G_standsAlone 33 = .ok (.iand, 1) := by decide +kernel
theorem d_G_standsAlone_34 : decode b_G_standsAlone 34 = .ok (.ifCond .eq 22, 3) := by decide +kernel
theorem d_G_standsAlone_37 : decode b_G_standsAlone 37 = .ok (.aload_n 0, 1) := by decide +kernel
theorem d_G_standsAlone_38 : decode b_G_standsAlone 38 = .ok (.getfield 18, 3) := by decide +kernel
theorem d_G_standsAlone_41 : decode b_G_standsAlone 41 = .ok (.iload 4, 2) := by decide +kernel
theorem d_G_standsAlone_43 : decode b_G_standsAlone 43 = .ok (.iaload, 1) := by decide +kernel
theorem d_G_standsAlone_44 : decode b_G_standsAlone 44 = .ok (.aload_n 0, 1) := by decide +kernel
theorem d_G_standsAlone_45 : decode b_G_standsAlone 45 = .ok (.getfield 21, 3) := by decide +kernel
theorem d_G_standsAlone_48 : decode b_G_standsAlone 48 = .ok (.iload_n 1, 1) := by decide +kernel
theorem d_G_standsAlone_49 : decode b_G_standsAlone 49 = .ok (.iaload, 1) := by decide +kernel
theorem d_G_standsAlone_50 : decode b_G_standsAlone 50 = .ok (.iand, 1) := by decide +kernel
theorem d_G_standsAlone_51 : decode b_G_standsAlone 51 = .ok (.ifCond .eq 5, 3) := by decide +kernel
theorem d_G_standsAlone_54 : decode b_G_standsAlone 54 = .ok (.iconst 0, 1) := by decide +kernel
theorem d_G_standsAlone_55 : decode b_G_standsAlone 55 = .ok (.ireturn, 1) := by decide +kernel
theorem d_G_standsAlone_56 : decode b_G_standsAlone 56 = .ok (.iinc 4 1, 3) := by decide +kernel
theorem d_G_standsAlone_59 : decode b_G_standsAlone 59 = .ok (.goto (-43), 3) := by decide +kernel
theorem d_G_standsAlone_62 : decode b_G_standsAlone 62 = .ok (.iconst 1, 1) := by decide +kernel
theorem d_G_standsAlone_63 : decode b_G_standsAlone 63 = .ok (.ireturn, 1) := by decide +kernel
def rm_G_standsAlone : Room := { frames := 1, cells := 0, slots := 0, locals := 21 }
def f_G_standsAlone_56 (fu : Nat) (k16 : Nat → Int32 → Int32 → Int32 → List va_E → Option (Int32 × List va_E)) (v0 : Nat) (v1 : Int32) (v3 : Int32) (v4 : Int32) (w : List va_E) : Option (Int32 × List va_E) := (k16 (v0) (v1) (v3) ((v4 + (1 : Int32))) w)
def f_G_standsAlone_16 (fu : Nat) : Nat → Nat → Int32 → Int32 → Int32 → List va_E → Option (Int32 × List va_E)
  | 0, _, _, _, _, _ => none
  | n + 1, v0, v1, v3, v4, w => ((hp_gi w v0 2 4).bind fun x1 => (if x1 ≤ v4 then (if (1 : Int32) = 0 ∨ (1 : Int32) = 1 then some ((1 : Int32), w) else none) else (if ((v3 >>> (((16 : Int32) + v4) &&& 31)) &&& (1 : Int32)) = 0 then (f_G_standsAlone_56 fu (f_G_standsAlone_16 fu n) (v0) (v1) (v3) (v4) w) else ((hp_gr w v0 2 2).bind fun q2 => ((hp_ri w q2 v4).bind fun x3 => ((hp_gr w v0 2 3).bind fun q4 => ((hp_ri w q4 v1).bind fun x5 => (if (x3 &&& x5) = 0 then (f_G_standsAlone_56 fu (f_G_standsAlone_16 fu n) (v0) (v1) (v3) (v4) w) else (if (0 : Int32) = 0 ∨ (0 : Int32) = 1 then some ((0 : Int32), w) else none)))))))))
def f_G_standsAlone (fu : Nat) (v0 : Nat) (v1 : Int32) (v2 : Int32) (w : List va_E) : Option (Int32 × List va_E) := ((hp_is w v0 2).bind fun _ => ((f_G_withBelow fu v0 ((16 : Int32) + v1) w).bind fun r1 => (f_G_standsAlone_16 fu fu (v0) (v1) ((v2 &&& (r1.1 ^^^ (-1 : Int32)))) ((0 : Int32)) r1.2)))
section
variable {p : Program} {l : Launch} {e : Env} {s : State} {m : MethodId} {args : Array Value} {below : List Frame} {meth : Method} {c : Code} {D : va_G} {ca : Nat → Nat} {A : Nat → Prop} {ad : Nat → Nat}
set_option maxRecDepth 100000 in
set_option maxHeartbeats 4000000 in
theorem v_G_standsAlone_56 (K : av_K p s m args meth c D cl8 ca A b_G_standsAlone 5 R_G WS) (G : av_G NS tabON A s s.heap) (hr : meth.sig.returnType = some .boolean) (fu : Nat) {r : Int32 × List va_E} (k16 : Nat → Int32 → Int32 → Int32 → List va_E → Option (Int32 × List va_E)) (hk16 : ∀ (v0 : Nat) (v1 : Int32) (v3 : Int32) (v4 : Int32) (w : List va_E), k16 v0 v1 v3 v4 w = some r → av_VI p l e rm_G_standsAlone s m args below meth c D cl8 A ad ca 5 r 16 [some (.ref v0), some (.int v1), none, some (.int v3), some (.int v4)] [] w) (v0 : Nat) (v1 : Int32) (v3 : Int32) (v4 : Int32) (w : List va_E) (h : f_G_standsAlone_56 fu k16 v0 v1 v3 v4 w = some r) : av_VI p l e rm_G_standsAlone s m args below meth c D cl8 A ad ca 5 r 56 [some (.ref v0), some (.int v1), none, some (.int v3), some (.int v4)] [] w := by
  unfold f_G_standsAlone_56 at h
  refine av_iinc (v := (v4 + (1 : Int32))) (L' := [some (.ref v0), some (.int v1), none, some (.int v3), some (.int (v4 + (1 : Int32)))]) K d_G_standsAlone_56 rfl (congrArg (fun z => v4 + z) (show Int32.ofInt 1 = (1 : Int32) by decide)) (Nat.le_of_ble_eq_true rfl) rfl ?_
  refine av_goto (tgt := 16) K d_G_standsAlone_59 rfl ?_
  exact hk16 (v0) (v1) (v3) ((v4 + (1 : Int32))) _ h
set_option maxRecDepth 100000 in
set_option maxHeartbeats 4000000 in
theorem v_G_standsAlone_16 (K : av_K p s m args meth c D cl8 ca A b_G_standsAlone 5 R_G WS) (G : av_G NS tabON A s s.heap) (hr : meth.sig.returnType = some .boolean) (fu : Nat) {r : Int32 × List va_E} : ∀ (n : Nat) (v0 : Nat) (v1 : Int32) (v3 : Int32) (v4 : Int32) (w : List va_E), f_G_standsAlone_16 fu n v0 v1 v3 v4 w = some r → av_VI p l e rm_G_standsAlone s m args below meth c D cl8 A ad ca 5 r 16 [some (.ref v0), some (.int v1), none, some (.int v3), some (.int v4)] [] w := by
  intro n
  induction n with
  | zero => intro _ _ _ _ _ h; cases h
  | succ n ih =>
    intro v0 v1 v3 v4 w h
    unfold f_G_standsAlone_16 at h
    refine av_iload K d_G_standsAlone_16 rfl ?_
    refine av_aload_n K d_G_standsAlone_18 rfl rfl ?_
    obtain ⟨x1, ex1, h⟩ := hp_bd h
    refine hv_gi K fl_G_24 d_G_standsAlone_19 ex1 ?_
    refine av_icmp_ge (tgt := 62) K d_G_standsAlone_22 rfl (fun hc => ?_) (fun hc => ?_)
    · rw [if_pos hc] at h
      refine av_iconst (v := (1 : Int32)) K d_G_standsAlone_62 (by decide) ?_
      obtain ⟨hz, h⟩ := hp_if h
      obtain rfl := Option.some.inj h
      exact av_zreturn K hr (hp_nz hz) d_G_standsAlone_63 rfl
    · rw [if_neg hc] at h
      refine av_iload_n K d_G_standsAlone_25 rfl rfl ?_
      refine av_bipush (v := (16 : Int32)) K d_G_standsAlone_26 (by decide) ?_
      refine av_iload K d_G_standsAlone_28 rfl ?_
      refine av_iadd K d_G_standsAlone_30 ?_
      refine av_ishr K d_G_standsAlone_31 ?_
      refine av_iconst (v := (1 : Int32)) K d_G_standsAlone_32 (by decide) ?_
      refine av_iand K d_G_standsAlone_33 ?_
      refine av_if_eq (tgt := 56) K d_G_standsAlone_34 rfl (fun hc => ?_) (fun hc => ?_)
      · rw [if_pos hc] at h
        exact v_G_standsAlone_56 K G hr fu (f_G_standsAlone_16 fu n) ih (v0) (v1) (v3) (v4) _ h
      · rw [if_neg hc] at h
        refine av_aload_n K d_G_standsAlone_37 rfl rfl ?_
        obtain ⟨q2, eq2, h⟩ := hp_bd h
        refine hv_gr K fl_G_18 d_G_standsAlone_38 eq2 ?_
        refine av_iload K d_G_standsAlone_41 rfl ?_
        obtain ⟨x3, ex3, h⟩ := hp_bd h
        refine hv_ri K d_G_standsAlone_43 ex3 ?_
        refine av_aload_n K d_G_standsAlone_44 rfl rfl ?_
        obtain ⟨q4, eq4, h⟩ := hp_bd h
        refine hv_gr K fl_G_21 d_G_standsAlone_45 eq4 ?_
        refine av_iload_n K d_G_standsAlone_48 rfl rfl ?_
        obtain ⟨x5, ex5, h⟩ := hp_bd h
        refine hv_ri K d_G_standsAlone_49 ex5 ?_
        refine av_iand K d_G_standsAlone_50 ?_
        refine av_if_eq (tgt := 56) K d_G_standsAlone_51 rfl (fun hc => ?_) (fun hc => ?_)
        · rw [if_pos hc] at h
          exact v_G_standsAlone_56 K G hr fu (f_G_standsAlone_16 fu n) ih (v0) (v1) (v3) (v4) _ h
        · rw [if_neg hc] at h
          refine av_iconst (v := (0 : Int32)) K d_G_standsAlone_54 (by decide) ?_
          obtain ⟨hz, h⟩ := hp_if h
          obtain rfl := Option.some.inj h
          exact av_zreturn K hr (hp_nz hz) d_G_standsAlone_55 rfl
set_option maxRecDepth 100000 in
set_option maxHeartbeats 4000000 in
theorem v_G_standsAlone (K : av_K p s m args meth c D cl8 ca A b_G_standsAlone 5 R_G WS) (G : av_G NS tabON A s s.heap) (hr : meth.sig.returnType = some .boolean) (fu : Nat) {r : Int32 × List va_E} (v0 : Nat) (v1 : Int32) (v2 : Int32) (w : List va_E) (h : f_G_standsAlone fu v0 v1 v2 w = some r) : av_VI p l e rm_G_standsAlone s m args below meth c D cl8 A ad ca 5 r 0 [some (.ref v0), some (.int v1), some (.int v2), none, none] [] w := by
  unfold f_G_standsAlone at h
  refine av_iload_n K d_G_standsAlone_0 rfl rfl ?_
  refine av_aload_n K d_G_standsAlone_1 rfl rfl ?_
  refine av_bipush (v := (16 : Int32)) K d_G_standsAlone_2 (by decide) ?_
  refine av_iload_n K d_G_standsAlone_4 rfl rfl ?_
  refine av_iadd K d_G_standsAlone_5 ?_
  obtain ⟨_, eo6, h⟩ := hp_bd h
  obtain ⟨r1, er1, h⟩ := hp_bd h
  obtain ⟨fs6, ho6⟩ := hp_is_of eo6
  refine av_cVi K G (c_G_withBelow (tab := tabON) er1) (cwV 1 K.2.2.2.2.1 (gV ml_G_34 im_G_withBelow se_G_withBelow in_G co_G_withBelow) rfl rfl rfl cd_G_withBelow ⟨Nat.le_of_ble_eq_true rfl, Nat.le_of_ble_eq_true rfl⟩) rfl ho6 rfl rfl (Nat.le_of_ble_eq_true rfl) d_G_standsAlone_6 ⟨Nat.zero_le _, Nat.zero_le _⟩ (fun a9 u9 h9 => ?_)
  obtain ⟨rfl, rfl⟩ : a9 = r1.1 ∧ u9 = r1.2 := ⟨congrArg Prod.fst h9, congrArg Prod.snd h9⟩
  refine av_iconst (v := (-1 : Int32)) K d_G_standsAlone_9 (by decide) ?_
  refine av_ixor K d_G_standsAlone_10 ?_
  refine av_iand K d_G_standsAlone_11 ?_
  refine av_istore_n (L' := [some (.ref v0), some (.int v1), some (.int v2), some (.int (v2 &&& (r1.1 ^^^ (-1 : Int32)))), none]) K d_G_standsAlone_12 rfl (Nat.le_of_ble_eq_true rfl) rfl ?_
  refine av_iconst (v := (0 : Int32)) K d_G_standsAlone_13 (by decide) ?_
  refine av_istore (L' := [some (.ref v0), some (.int v1), some (.int v2), some (.int (v2 &&& (r1.1 ^^^ (-1 : Int32)))), some (.int (0 : Int32))]) K d_G_standsAlone_14 (Nat.le_of_ble_eq_true rfl) rfl ?_
  refine hv_fg (L' := [some (.ref v0), some (.int v1), none, some (.int (v2 &&& (r1.1 ^^^ (-1 : Int32)))), some (.int (0 : Int32))]) [2] rfl ?_
  exact v_G_standsAlone_16 K G hr fu fu (v0) (v1) ((v2 &&& (r1.1 ^^^ (-1 : Int32)))) ((0 : Int32)) _ h
end
set_option maxRecDepth 100000 in
theorem c_G_standsAlone {l : Launch} {D : va_G} {ca : Nat → Nat} {tab : Nat → Int64} {fu : Nat} {v0 : Nat} {v1 : Int32} {v2 : Int32} {w : List va_E} {r : Int32 × List va_E} (h : f_G_standsAlone fu v0 v1 v2 w = some r) : av_Ci l D cl8 ca NS tabON y_G_standsAlone w_G_standsAlone rm_G_standsAlone [.ref v0, .int v1, .int v2] w (fun v u => (v, u) = r) :=
  av_inI (cc := b_G_standsAlone) (nL := 5) (by decide +kernel) rfl (Nat.le_of_ble_eq_true rfl) (fun p e s m args below meth c A ad K G hr => v_G_standsAlone K G hr fu v0 v1 v2 w h)

-- FaultTreeDesk$Gates.moduleSum(I)I
theorem d_G_moduleSum_0 : decode b_G_moduleSum 0 = .ok (.aload_n 0, 1) := by decide +kernel
theorem d_G_moduleSum_1 : decode b_G_moduleSum 1 = .ok (.bipush 16, 2) := by decide +kernel
theorem d_G_moduleSum_3 : decode b_G_moduleSum 3 = .ok (.iload_n 1, 1) := by decide +kernel
theorem d_G_moduleSum_4 : decode b_G_moduleSum 4 = .ok (.iadd, 1) := by decide +kernel
theorem d_G_moduleSum_5 : decode b_G_moduleSum 5 = .ok (.invokevirtual 34, 3) := by decide +kernel
theorem d_G_moduleSum_8 : decode b_G_moduleSum 8 = .ok (.istore_n 2, 1) := by decide +kernel
theorem d_G_moduleSum_9 : decode b_G_moduleSum 9 = .ok (.iconst 0, 1) := by decide +kernel
theorem d_G_moduleSum_10 : decode b_G_moduleSum 10 = .ok (.istore_n 3, 1) := by decide +kernel
theorem d_G_moduleSum_11 : decode b_G_moduleSum 11 = .ok (.iconst 0, 1) := by decide +kernel
theorem d_G_moduleSum_12 : decode b_G_moduleSum 12 = .ok (.istore 4, 2) := by decide +kernel
theorem d_G_moduleSum_14 : decode b_G_moduleSum 14 = .ok (.iload 4, 2) := by decide +kernel
theorem d_G_moduleSum_16 : decode b_G_moduleSum 16 = .ok (.aload_n 0, 1) := by decide +kernel
theorem d_G_moduleSum_17 : decode b_G_moduleSum 17 = .ok (.getfield 24, 3) := by decide +kernel
theorem d_G_moduleSum_20 : decode b_G_moduleSum 20 = .ok (.if_icmp .ge 38, 3) := by decide +kernel
theorem d_G_moduleSum_23 : decode b_G_moduleSum 23 = .ok (.iload_n 2, 1) := by decide +kernel
theorem d_G_moduleSum_24 : decode b_G_moduleSum 24 = .ok (.bipush 16, 2) := by decide +kernel
theorem d_G_moduleSum_26 : decode b_G_moduleSum 26 = .ok (.iload 4, 2) := by decide +kernel
theorem d_G_moduleSum_28 : decode b_G_moduleSum 28 = .ok (.iadd, 1) := by decide +kernel
theorem d_G_moduleSum_29 : decode b_G_moduleSum 29 = .ok (.ishr, 1) := by decide +kernel
theorem d_G_moduleSum_30 : decode b_G_moduleSum 30 = .ok (.iconst 1, 1) := by decide +kernel
theorem d_G_moduleSum_31 : decode b_G_moduleSum 31 = .ok (.iand, 1) := by decide +kernel
theorem d_G_moduleSum_32 : decode b_G_moduleSum 32 = .ok (.ifCond .eq 20, 3) := by decide +kernel
theorem d_G_moduleSum_35 : decode b_G_moduleSum 35 = .ok (.aload_n 0, 1) := by decide +kernel
theorem d_G_moduleSum_36 : decode b_G_moduleSum 36 = .ok (.iload 4, 2) := by decide +kernel
theorem d_G_moduleSum_38 : decode b_G_moduleSum 38 = .ok (.iload_n 2, 1) := by decide +kernel
theorem d_G_moduleSum_39 : decode b_G_moduleSum 39 = .ok (.invokevirtual 37, 3) := by decide +kernel
theorem d_G_moduleSum_42 : decode b_G_moduleSum 42 = .ok (.ifCond .eq 10, 3) := by decide +kernel
theorem d_G_moduleSum_45 : decode b_G_moduleSum 45 = .ok (.iload_n 3, 1) := by decide +kernel
theorem d_G_moduleSum_46 : decode b_G_moduleSum 46 = .ok (.iconst 1, 1) := by decide +kernel
theorem d_G_moduleSum_47 : decode b_G_moduleSum 47 = .ok (.iload 4, 2) := by decide +kernel
theorem d_G_moduleSum_49 : decode b_G_moduleSum 49 = .ok (.ishl, 1) := by decide +kernel
theorem d_G_moduleSum_50 : decode b_G_moduleSum 50 = .ok (.ior, 1) := by decide +kernel
theorem d_G_moduleSum_51 : decode b_G_moduleSum 51 = .ok (.istore_n 3, 1) := by decide +kernel
theorem d_G_moduleSum_52 : decode b_G_moduleSum 52 = .ok (.iinc 4 1, 3) := by decide +kernel
theorem d_G_moduleSum_55 : decode b_G_moduleSum 55 = .ok (.goto (-41), 3) := by decide +kernel
theorem d_G_moduleSum_58 : decode b_G_moduleSum 58 = .ok (.iload_n 3, 1) := by decide +kernel
theorem d_G_moduleSum_59 : decode b_G_moduleSum 59 = .ok (.ireturn, 1) := by decide +kernel
def rm_G_moduleSum : Room := { frames := 2, cells := 0, slots := 0, locals := 45 }
def f_G_moduleSum_52 (fu : Nat) (k14 : Nat → Int32 → Int32 → Int32 → List va_E → Option (Int32 × List va_E)) (v0 : Nat) (v2 : Int32) (v3 : Int32) (v4 : Int32) (w : List va_E) : Option (Int32 × List va_E) := (k14 (v0) (v2) (v3) ((v4 + (1 : Int32))) w)
def f_G_moduleSum_14 (fu : Nat) : Nat → Nat → Int32 → Int32 → Int32 → List va_E → Option (Int32 × List va_E)
  | 0, _, _, _, _, _ => none
  | n + 1, v0, v2, v3, v4, w => ((hp_gi w v0 2 4).bind fun x1 => (if x1 ≤ v4 then (some (v3, w)) else (if ((v2 >>> (((16 : Int32) + v4) &&& 31)) &&& (1 : Int32)) = 0 then (f_G_moduleSum_52 fu (f_G_moduleSum_14 fu n) (v0) (v2) (v3) (v4) w) else ((hp_is w v0 2).bind fun _ => ((f_G_standsAlone fu v0 v4 v2 w).bind fun r2 => (if r2.1 = 0 then (f_G_moduleSum_52 fu (f_G_moduleSum_14 fu n) (v0) (v2) (v3) (v4) r2.2) else (f_G_moduleSum_52 fu (f_G_moduleSum_14 fu n) (v0) (v2) ((v3 ||| ((1 : Int32) <<< (v4 &&& 31)))) (v4) r2.2)))))))
def f_G_moduleSum (fu : Nat) (v0 : Nat) (v1 : Int32) (w : List va_E) : Option (Int32 × List va_E) := ((hp_is w v0 2).bind fun _ => ((f_G_withBelow fu v0 ((16 : Int32) + v1) w).bind fun r1 => (f_G_moduleSum_14 fu fu (v0) (r1.1) ((0 : Int32)) ((0 : Int32)) r1.2)))
section
variable {p : Program} {l : Launch} {e : Env} {s : State} {m : MethodId} {args : Array Value} {below : List Frame} {meth : Method} {c : Code} {D : va_G} {ca : Nat → Nat} {A : Nat → Prop} {ad : Nat → Nat}
set_option maxRecDepth 100000 in
set_option maxHeartbeats 4000000 in
theorem v_G_moduleSum_52 (K : av_K p s m args meth c D cl8 ca A b_G_moduleSum 5 R_G WS) (G : av_G NS tabON A s s.heap) (hr : meth.sig.returnType = some .int) (fu : Nat) {r : Int32 × List va_E} (k14 : Nat → Int32 → Int32 → Int32 → List va_E → Option (Int32 × List va_E)) (hk14 : ∀ (v0 : Nat) (v2 : Int32) (v3 : Int32) (v4 : Int32) (w : List va_E), k14 v0 v2 v3 v4 w = some r → av_VI p l e rm_G_moduleSum s m args below meth c D cl8 A ad ca 5 r 14 [some (.ref v0), none, some (.int v2), some (.int v3), some (.int v4)] [] w) (v0 : Nat) (v2 : Int32) (v3 : Int32) (v4 : Int32) (w : List va_E) (h : f_G_moduleSum_52 fu k14 v0 v2 v3 v4 w = some r) : av_VI p l e rm_G_moduleSum s m args below meth c D cl8 A ad ca 5 r 52 [some (.ref v0), none, some (.int v2), some (.int v3), some (.int v4)] [] w := by
  unfold f_G_moduleSum_52 at h
  refine av_iinc (v := (v4 + (1 : Int32))) (L' := [some (.ref v0), none, some (.int v2), some (.int v3), some (.int (v4 + (1 : Int32)))]) K d_G_moduleSum_52 rfl (congrArg (fun z => v4 + z) (show Int32.ofInt 1 = (1 : Int32) by decide)) (Nat.le_of_ble_eq_true rfl) rfl ?_
  refine av_goto (tgt := 14) K d_G_moduleSum_55 rfl ?_
  exact hk14 (v0) (v2) (v3) ((v4 + (1 : Int32))) _ h
set_option maxRecDepth 100000 in
set_option maxHeartbeats 4000000 in
theorem v_G_moduleSum_14 (K : av_K p s m args meth c D cl8 ca A b_G_moduleSum 5 R_G WS) (G : av_G NS tabON A s s.heap) (hr : meth.sig.returnType = some .int) (fu : Nat) {r : Int32 × List va_E} : ∀ (n : Nat) (v0 : Nat) (v2 : Int32) (v3 : Int32) (v4 : Int32) (w : List va_E), f_G_moduleSum_14 fu n v0 v2 v3 v4 w = some r → av_VI p l e rm_G_moduleSum s m args below meth c D cl8 A ad ca 5 r 14 [some (.ref v0), none, some (.int v2), some (.int v3), some (.int v4)] [] w := by
  intro n
  induction n with
  | zero => intro _ _ _ _ _ h; cases h
  | succ n ih =>
    intro v0 v2 v3 v4 w h
    unfold f_G_moduleSum_14 at h
    refine av_iload K d_G_moduleSum_14 rfl ?_
    refine av_aload_n K d_G_moduleSum_16 rfl rfl ?_
    obtain ⟨x1, ex1, h⟩ := hp_bd h
    refine hv_gi K fl_G_24 d_G_moduleSum_17 ex1 ?_
    refine av_icmp_ge (tgt := 58) K d_G_moduleSum_20 rfl (fun hc => ?_) (fun hc => ?_)
    · rw [if_pos hc] at h
      refine av_iload_n K d_G_moduleSum_58 rfl rfl ?_
      obtain rfl := Option.some.inj h
      exact av_ireturn K hr d_G_moduleSum_59 rfl
    · rw [if_neg hc] at h
      refine av_iload_n K d_G_moduleSum_23 rfl rfl ?_
      refine av_bipush (v := (16 : Int32)) K d_G_moduleSum_24 (by decide) ?_
      refine av_iload K d_G_moduleSum_26 rfl ?_
      refine av_iadd K d_G_moduleSum_28 ?_
      refine av_ishr K d_G_moduleSum_29 ?_
      refine av_iconst (v := (1 : Int32)) K d_G_moduleSum_30 (by decide) ?_
      refine av_iand K d_G_moduleSum_31 ?_
      refine av_if_eq (tgt := 52) K d_G_moduleSum_32 rfl (fun hc => ?_) (fun hc => ?_)
      · rw [if_pos hc] at h
        exact v_G_moduleSum_52 K G hr fu (f_G_moduleSum_14 fu n) ih (v0) (v2) (v3) (v4) _ h
      · rw [if_neg hc] at h
        refine av_aload_n K d_G_moduleSum_35 rfl rfl ?_
        refine av_iload K d_G_moduleSum_36 rfl ?_
        refine av_iload_n K d_G_moduleSum_38 rfl rfl ?_
        obtain ⟨_, eo39, h⟩ := hp_bd h
        obtain ⟨r2, er2, h⟩ := hp_bd h
        obtain ⟨fs39, ho39⟩ := hp_is_of eo39
        refine av_cVi K G (c_G_standsAlone (tab := tabON) er2) (cwV 2 K.2.2.2.2.1 (gV ml_G_37 im_G_standsAlone se_G_standsAlone in_G co_G_standsAlone) rfl rfl rfl cd_G_standsAlone ⟨Nat.le_of_ble_eq_true rfl, Nat.le_of_ble_eq_true rfl⟩) rfl ho39 rfl rfl (Nat.le_of_ble_eq_true rfl) d_G_moduleSum_39 ⟨Nat.zero_le _, Nat.zero_le _⟩ (fun a9 u9 h9 => ?_)
        obtain ⟨rfl, rfl⟩ : a9 = r2.1 ∧ u9 = r2.2 := ⟨congrArg Prod.fst h9, congrArg Prod.snd h9⟩
        refine av_if_eq (tgt := 52) K d_G_moduleSum_42 rfl (fun hc => ?_) (fun hc => ?_)
        · rw [if_pos hc] at h
          exact v_G_moduleSum_52 K G hr fu (f_G_moduleSum_14 fu n) ih (v0) (v2) (v3) (v4) _ h
        · rw [if_neg hc] at h
          refine av_iload_n K d_G_moduleSum_45 rfl rfl ?_
          refine av_iconst (v := (1 : Int32)) K d_G_moduleSum_46 (by decide) ?_
          refine av_iload K d_G_moduleSum_47 rfl ?_
          refine av_ishl K d_G_moduleSum_49 ?_
          refine av_ior K d_G_moduleSum_50 ?_
          refine av_istore_n (L' := [some (.ref v0), none, some (.int v2), some (.int (v3 ||| ((1 : Int32) <<< (v4 &&& 31)))), some (.int v4)]) K d_G_moduleSum_51 rfl (Nat.le_of_ble_eq_true rfl) rfl ?_
          exact v_G_moduleSum_52 K G hr fu (f_G_moduleSum_14 fu n) ih (v0) (v2) ((v3 ||| ((1 : Int32) <<< (v4 &&& 31)))) (v4) _ h
set_option maxRecDepth 100000 in
set_option maxHeartbeats 4000000 in
theorem v_G_moduleSum (K : av_K p s m args meth c D cl8 ca A b_G_moduleSum 5 R_G WS) (G : av_G NS tabON A s s.heap) (hr : meth.sig.returnType = some .int) (fu : Nat) {r : Int32 × List va_E} (v0 : Nat) (v1 : Int32) (w : List va_E) (h : f_G_moduleSum fu v0 v1 w = some r) : av_VI p l e rm_G_moduleSum s m args below meth c D cl8 A ad ca 5 r 0 [some (.ref v0), some (.int v1), none, none, none] [] w := by
  unfold f_G_moduleSum at h
  refine av_aload_n K d_G_moduleSum_0 rfl rfl ?_
  refine av_bipush (v := (16 : Int32)) K d_G_moduleSum_1 (by decide) ?_
  refine av_iload_n K d_G_moduleSum_3 rfl rfl ?_
  refine av_iadd K d_G_moduleSum_4 ?_
  obtain ⟨_, eo5, h⟩ := hp_bd h
  obtain ⟨r1, er1, h⟩ := hp_bd h
  obtain ⟨fs5, ho5⟩ := hp_is_of eo5
  refine av_cVi K G (c_G_withBelow (tab := tabON) er1) (cwV 1 K.2.2.2.2.1 (gV ml_G_34 im_G_withBelow se_G_withBelow in_G co_G_withBelow) rfl rfl rfl cd_G_withBelow ⟨Nat.le_of_ble_eq_true rfl, Nat.le_of_ble_eq_true rfl⟩) rfl ho5 rfl rfl (Nat.le_of_ble_eq_true rfl) d_G_moduleSum_5 ⟨Nat.zero_le _, Nat.zero_le _⟩ (fun a9 u9 h9 => ?_)
  obtain ⟨rfl, rfl⟩ : a9 = r1.1 ∧ u9 = r1.2 := ⟨congrArg Prod.fst h9, congrArg Prod.snd h9⟩
  refine av_istore_n (L' := [some (.ref v0), some (.int v1), some (.int r1.1), none, none]) K d_G_moduleSum_8 rfl (Nat.le_of_ble_eq_true rfl) rfl ?_
  refine av_iconst (v := (0 : Int32)) K d_G_moduleSum_9 (by decide) ?_
  refine av_istore_n (L' := [some (.ref v0), some (.int v1), some (.int r1.1), some (.int (0 : Int32)), none]) K d_G_moduleSum_10 rfl (Nat.le_of_ble_eq_true rfl) rfl ?_
  refine av_iconst (v := (0 : Int32)) K d_G_moduleSum_11 (by decide) ?_
  refine av_istore (L' := [some (.ref v0), some (.int v1), some (.int r1.1), some (.int (0 : Int32)), some (.int (0 : Int32))]) K d_G_moduleSum_12 (Nat.le_of_ble_eq_true rfl) rfl ?_
  refine hv_fg (L' := [some (.ref v0), none, some (.int r1.1), some (.int (0 : Int32)), some (.int (0 : Int32))]) [1] rfl ?_
  exact v_G_moduleSum_14 K G hr fu fu (v0) (r1.1) ((0 : Int32)) ((0 : Int32)) _ h
end
set_option maxRecDepth 100000 in
theorem c_G_moduleSum {l : Launch} {D : va_G} {ca : Nat → Nat} {tab : Nat → Int64} {fu : Nat} {v0 : Nat} {v1 : Int32} {w : List va_E} {r : Int32 × List va_E} (h : f_G_moduleSum fu v0 v1 w = some r) : av_Ci l D cl8 ca NS tabON y_G_moduleSum w_G_moduleSum rm_G_moduleSum [.ref v0, .int v1] w (fun v u => (v, u) = r) :=
  av_inI (cc := b_G_moduleSum) (nL := 5) (by decide +kernel) rfl (Nat.le_of_ble_eq_true rfl) (fun p e s m args below meth c A ad K G hr => v_G_moduleSum K G hr fu v0 v1 w h)
