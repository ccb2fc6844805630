-- FaultTreeDesk$Events.has(I)Z
theorem d_E_has_0 : decode b_E_has 0 = .ok (.iload_n 1, 1) := by decide +kernel
theorem d_E_has_1 : decode b_E_has 1 = .ok (.ifCond .lt 15, 3) := by decide +kernel
theorem d_E_has_4 : decode b_E_has 4 = .ok (.iload_n 1, 1) := by decide +kernel
theorem d_E_has_5 : decode b_E_has 5 = .ok (.aload_n 0, 1) := by decide +kernel
theorem d_E_has_6 : decode b_E_has 6 = .ok (.getfield 18, 3) := by decide +kernel
theorem d_E_has_9 : decode b_E_has 9 = .ok (.if_icmp .ge 7, 3) := by decide +kernel
theorem d_E_has_12 : decode b_E_has 12 = .ok (.iconst 1, 1) := by decide +kernel
theorem d_E_has_13 : decode b_E_has 13 = .ok (.goto 4, 3) := by decide +kernel
theorem d_E_has_16 : decode b_E_has 16 = .ok (.iconst 0, 1) := by decide +kernel
theorem d_E_has_17 : decode b_E_has 17 = .ok (.ireturn, 1) := by decide +kernel
def rm_E_has : Room := { frames := 0, cells := 0, slots := 0, locals := 0 }
def f_E_has_17 (fu : Nat) (s0 : Int32) (w : List va_E) : Option (Int32 × List va_E) := (if s0 = 0 ∨ s0 = 1 then some (s0, w) else none)
def f_E_has_16 (fu : Nat) (w : List va_E) : Option (Int32 × List va_E) := (f_E_has_17 fu ((0 : Int32)) w)
def f_E_has (fu : Nat) (v0 : Nat) (v1 : Int32) (w : List va_E) : Option (Int32 × List va_E) := (if v1 < 0 then (f_E_has_16 fu w) else ((hp_gi w v0 1 2).bind fun x1 => (if x1 ≤ v1 then (f_E_has_16 fu w) else (f_E_has_17 fu ((1 : Int32)) w))))
section
variable {p : Program} {l : Launch} {e : Env} {s : State} {m : MethodId} {args : Array Value} {below : List Frame} {meth : Method} {c : Code} {D : va_G} {ca : Nat → Nat} {A : Nat → Prop} {ad : Nat → Nat}
set_option maxRecDepth 100000 in
set_option maxHeartbeats 4000000 in
theorem v_E_has_17 (K : av_K p s m args meth c D cl8 ca A b_E_has 2 R_E WS) (G : av_G NS tabON A s s.heap) (hr : meth.sig.returnType = some .boolean) (fu : Nat) {r : Int32 × List va_E} (s0 : Int32) (w : List va_E) (h : f_E_has_17 fu s0 w = some r) : av_VI p l e rm_E_has s m args below meth c D cl8 A ad ca 2 r 17 [none, none] [.int s0] w := by
  unfold f_E_has_17 at h
  obtain ⟨hz, h⟩ := hp_if h
  obtain rfl := Option.some.inj h
  exact av_zreturn K hr (hp_nz hz) d_E_has_17 rfl
set_option maxRecDepth 100000 in
set_option maxHeartbeats 4000000 in
theorem v_E_has_16 (K : av_K p s m args meth c D cl8 ca A b_E_has 2 R_E WS) (G : av_G NS tabON A s s.heap) (hr : meth.sig.returnType = some .boolean) (fu : Nat) {r : Int32 × List va_E} (w : List va_E) (h : f_E_has_16 fu w = some r) : av_VI p l e rm_E_has s m args below meth c D cl8 A ad ca 2 r 16 [none, none] [] w := by
  unfold f_E_has_16 at h
  refine av_iconst (v := (0 : Int32)) K d_E_has_16 (by decide) ?_
  exact v_E_has_17 K G hr fu ((0 : Int32)) _ h
set_option maxRecDepth 100000 in
set_option maxHeartbeats 4000000 in
theorem v_E_has (K : av_K p s m args meth c D cl8 ca A b_E_has 2 R_E WS) (G : av_G NS tabON A s s.heap) (hr : meth.sig.returnType = some .boolean) (fu : Nat) {r : Int32 × List va_E} (v0 : Nat) (v1 : Int32) (w : List va_E) (h : f_E_has fu v0 v1 w = some r) : av_VI p l e rm_E_has s m args below meth c D cl8 A ad ca 2 r 0 [some (.ref v0), some (.int v1)] [] w := by
  unfold f_E_has at h
  refine av_iload_n K d_E_has_0 rfl rfl ?_
  refine av_if_lt (tgt := 16) K d_E_has_1 rfl (fun hc => ?_) (fun hc => ?_)
  · rw [if_pos hc] at h
    refine hv_fg (L' := [none, none]) [0, 1] rfl ?_
    exact v_E_has_16 K G hr fu _ h
  · rw [if_neg hc] at h
    refine av_iload_n K d_E_has_4 rfl rfl ?_
    refine av_aload_n K d_E_has_5 rfl rfl ?_
    obtain ⟨x1, ex1, h⟩ := hp_bd h
    refine hv_gi K fl_E_18 d_E_has_6 ex1 ?_
    refine av_icmp_ge (tgt := 16) K d_E_has_9 rfl (fun hc => ?_) (fun hc => ?_)
    · rw [if_pos hc] at h
      refine hv_fg (L' := [none, none]) [0, 1] rfl ?_
      exact v_E_has_16 K G hr fu _ h
    · rw [if_neg hc] at h
      refine av_iconst (v := (1 : Int32)) K d_E_has_12 (by decide) ?_
      refine av_goto (tgt := 17) K d_E_has_13 rfl ?_
      refine hv_fg (L' := [none, none]) [0, 1] rfl ?_
      exact v_E_has_17 K G hr fu ((1 : Int32)) _ h
end
set_option maxRecDepth 100000 in
theorem c_E_has {l : Launch} {D : va_G} {ca : Nat → Nat} {tab : Nat → Int64} {fu : Nat} {v0 : Nat} {v1 : Int32} {w : List va_E} {r : Int32 × List va_E} (h : f_E_has fu v0 v1 w = some r) : av_Ci l D cl8 ca NS tabON y_E_has w_E_has rm_E_has [.ref v0, .int v1] w (fun v u => (v, u) = r) :=
  av_inI (cc := b_E_has) (nL := 2) (by decide +kernel) rfl (Nat.le_of_ble_eq_true rfl) (fun p e s m args below meth c A ad K G hr => v_E_has K G hr fu v0 v1 w h)

-- FaultTreeDesk$Events.add(I)I
theorem d_E_add_0 : decode b_E_add 0 = .ok (.aload_n 0, 1) := by decide +kernel
theorem d_E_add_1 : decode b_E_add 1 = .ok (.getfield 9, 3) := by decide +kernel
theorem d_E_add_4 : decode b_E_add 4 = .ok (.aload_n 0, 1) := by decide +kernel
theorem d_E_add_5 : decode b_E_add 5 = .ok (.getfield 18, 3) := by decide +kernel
theorem d_E_add_8 : decode b_E_add 8 = .ok (.iload_n 1, 1) := by decide +kernel
theorem d_E_add_9 : decode b_E_add 9 = .ok (.iastore, 1) := by decide +kernel
theorem d_E_add_10 : decode b_E_add 10 = .ok (.aload_n 0, 1) := by decide +kernel
theorem d_E_add_11 : decode b_E_add 11 = .ok (.getfield 15, 3) := by decide +kernel
theorem d_E_add_14 : decode b_E_add 14 = .ok (.aload_n 0, 1) := by decide +kernel
theorem d_E_add_15 : decode b_E_add 15 = .ok (.getfield 18, 3) := by decide +kernel
theorem d_E_add_18 : decode b_E_add 18 = .ok (.iconst 0, 1) := by decide +kernel
theorem d_E_add_19 : decode b_E_add 19 = .ok (.iastore, 1) := by decide +kernel
theorem d_E_add_20 : decode b_E_add 20 = .ok (.aload_n 0, 1) := by decide +kernel
theorem d_E_add_21 : decode b_E_add 21 = .ok (.dup, 1) := by decide +kernel
theorem d_E_add_22 : decode b_E_add 22 = .ok (.getfield 18, 3) := by decide +kernel
theorem d_E_add_25 : decode b_E_add 25 = .ok (.iconst 1, 1) := by decide +kernel
theorem d_E_add_26 : decode b_E_add 26 = .ok (.iadd, 1) := by decide +kernel
theorem d_E_add_27 : decode b_E_add 27 = .ok (.putfield 18, 3) := by decide +kernel
theorem d_E_add_30 : decode b_E_add 30 = .ok (.aload_n 0, 1) := by decide +kernel
theorem d_E_add_31 : decode b_E_add 31 = .ok (.getfield 18, 3) := by decide +kernel
theorem d_E_add_34 : decode b_E_add 34 = .ok (.iconst 1, 1) := by decide +kernel
theorem d_E_add_35 : decode b_E_add 35 = .ok (.isub, 1) := by decide +kernel
theorem d_E_add_36 : decode b_E_add 36 = .ok (.ireturn, 1) := by decide +kernel
def rm_E_add : Room := { frames := 0, cells := 0, slots := 0, locals := 0 }
def f_E_add (fu : Nat) (v0 : Nat) (v1 : Int32) (w : List va_E) : Option (Int32 × List va_E) := ((hp_gr w v0 1 0).bind fun q1 => ((hp_gi w v0 1 2).bind fun x2 => ((hp_wi w q1 x2 v1).bind fun w3 => ((hp_gr w3 v0 1 1).bind fun q4 => ((hp_gi w3 v0 1 2).bind fun x5 => ((hp_wi w3 q4 x5 (0 : Int32)).bind fun w6 => ((hp_gi w6 v0 1 2).bind fun x7 => ((hp_pi w6 v0 1 2 (x7 + (1 : Int32))).bind fun w8 => ((hp_gi w8 v0 1 2).bind fun x9 => (some ((x9 - (1 : Int32)), w8)))))))))))
section
variable {p : Program} {l : Launch} {e : Env} {s : State} {m : MethodId} {args : Array Value} {below : List Frame} {meth : Method} {c : Code} {D : va_G} {ca : Nat → Nat} {A : Nat → Prop} {ad : Nat → Nat}
set_option maxRecDepth 100000 in
set_option maxHeartbeats 4000000 in
theorem v_E_add (K : av_K p s m args meth c D cl8 ca A b_E_add 2 R_E WS) (G : av_G NS tabON A s s.heap) (hr : meth.sig.returnType = some .int) (fu : Nat) {r : Int32 × List va_E} (v0 : Nat) (v1 : Int32) (w : List va_E) (h : f_E_add fu v0 v1 w = some r) : av_VI p l e rm_E_add s m args below meth c D cl8 A ad ca 2 r 0 [some (.ref v0), some (.int v1)] [] w := by
  unfold f_E_add at h
  refine av_aload_n K d_E_add_0 rfl rfl ?_
  obtain ⟨q1, eq1, h⟩ := hp_bd h
  refine hv_gr K fl_E_9 d_E_add_1 eq1 ?_
  refine av_aload_n K d_E_add_4 rfl rfl ?_
  obtain ⟨x2, ex2, h⟩ := hp_bd h
  refine hv_gi K fl_E_18 d_E_add_5 ex2 ?_
  refine av_iload_n K d_E_add_8 rfl rfl ?_
  obtain ⟨w3, ew3, h⟩ := hp_bd h
  refine hv_wi K d_E_add_9 ew3 ?_
  refine av_aload_n K d_E_add_10 rfl rfl ?_
  obtain ⟨q4, eq4, h⟩ := hp_bd h
  refine hv_gr K fl_E_15 d_E_add_11 eq4 ?_
  refine av_aload_n K d_E_add_14 rfl rfl ?_
  obtain ⟨x5, ex5, h⟩ := hp_bd h
  refine hv_gi K fl_E_18 d_E_add_15 ex5 ?_
  refine av_iconst (v := (0 : Int32)) K d_E_add_18 (by decide) ?_
  obtain ⟨w6, ew6, h⟩ := hp_bd h
  refine hv_wi K d_E_add_19 ew6 ?_
  refine av_aload_n K d_E_add_20 rfl rfl ?_
  refine av_dup K d_E_add_21 rfl ?_
  obtain ⟨x7, ex7, h⟩ := hp_bd h
  refine hv_gi K fl_E_18 d_E_add_22 ex7 ?_
  refine av_iconst (v := (1 : Int32)) K d_E_add_25 (by decide) ?_
  refine av_iadd K d_E_add_26 ?_
  obtain ⟨w8, ew8, h⟩ := hp_bd h
  refine hv_pi K fp_E_18 d_E_add_27 ew8 ?_
  refine av_aload_n K d_E_add_30 rfl rfl ?_
  obtain ⟨x9, ex9, h⟩ := hp_bd h
  refine hv_gi K fl_E_18 d_E_add_31 ex9 ?_
  refine av_iconst (v := (1 : Int32)) K d_E_add_34 (by decide) ?_
  refine av_isub K d_E_add_35 ?_
  obtain rfl := Option.some.inj h
  exact av_ireturn K hr d_E_add_36 rfl
end
set_option maxRecDepth 100000 in
theorem c_E_add {l : Launch} {D : va_G} {ca : Nat → Nat} {tab : Nat → Int64} {fu : Nat} {v0 : Nat} {v1 : Int32} {w : List va_E} {r : Int32 × List va_E} (h : f_E_add fu v0 v1 w = some r) : av_Ci l D cl8 ca NS tabON y_E_add w_E_add rm_E_add [.ref v0, .int v1] w (fun v u => (v, u) = r) :=
  av_inI (cc := b_E_add) (nL := 2) (by decide +kernel) rfl (Nat.le_of_ble_eq_true rfl) (fun p e s m args below meth c A ad K G hr => v_E_add K G hr fu v0 v1 w h)
