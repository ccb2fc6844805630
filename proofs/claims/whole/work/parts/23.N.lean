theorem gN {cw : Cond} (h : cw ∈ WS) : GoodIn WS (cw :: WS) := fun w hw => ws_g w ((List.mem_cons.mp hw).elim (fun e => by rw [e]; exact h) id)
theorem oi_m : Cond.instanceMethod objectInit ∈ WS := ws_t (List.mem_of_getElem? (i := 26) (by decide +kernel)) (by decide +kernel)
theorem oi_c : Cond.code objectInit ⟨#[0xb1]⟩ 1 none ∈ WS := ws_t (List.mem_of_getElem? (i := 27) (by decide +kernel)) rfl
theorem ac_int : Cond.arrayClass .int ∈ WS := ws_t (List.mem_of_getElem? (i := 51) (by decide +kernel)) (by decide +kernel)
theorem ac_long : Cond.arrayClass .long ∈ WS := ws_t (List.mem_of_getElem? (i := 107) (by decide +kernel)) (by decide +kernel)
theorem ac_boolean : Cond.arrayClass .boolean ∈ WS := ws_t (List.mem_of_getElem? (i := 692) (by decide +kernel)) (by decide +kernel)
theorem ol_D : Cond.methodLink R_D 3 objectInit ∈ WS := ws_t (List.mem_of_getElem? (i := 123) (by decide +kernel)) (by decide +kernel)
theorem ni_D : Cond.instantiable R_D 3 ∈ WS := ws_t (List.mem_of_getElem? (i := 119) (by decide +kernel)) (by decide +kernel)
theorem nf_D {ad : Nat → Nat} : ∀ j, j < 3 → defaultValue (tq_D j) = vp_V (([.null, .null, .int 0] : List Value).map (ax_v ad)) j := by
  intro j hj
  match j, hj with
  | 0, _ => rfl
  | 1, _ => rfl
  | 2, _ => rfl
  | j + 3, h => exact absurd h (by omega)
theorem ol_E : Cond.methodLink R_E 3 objectInit ∈ WS := ws_t (List.mem_of_getElem? (i := 33) (by decide +kernel)) (by decide +kernel)
theorem ni_E : Cond.instantiable R_E 3 ∈ WS := ws_t (List.mem_of_getElem? (i := 29) (by decide +kernel)) (by decide +kernel)
theorem nf_E {ad : Nat → Nat} : ∀ j, j < 3 → defaultValue (tq_E j) = vp_V (([.null, .null, .int 0] : List Value).map (ax_v ad)) j := by
  intro j hj
  match j, hj with
  | 0, _ => rfl
  | 1, _ => rfl
  | 2, _ => rfl
  | j + 3, h => exact absurd h (by omega)
theorem ol_G : Cond.methodLink R_G 3 objectInit ∈ WS := ws_t (List.mem_of_getElem? (i := 57) (by decide +kernel)) (by decide +kernel)
theorem ni_G : Cond.instantiable R_G 5 ∈ WS := ws_t (List.mem_of_getElem? (i := 53) (by decide +kernel)) (by decide +kernel)
theorem nf_G {ad : Nat → Nat} : ∀ j, j < 5 → defaultValue (tq_G j) = vp_V (([.null, .null, .null, .null, .int 0] : List Value).map (ax_v ad)) j := by
  intro j hj
  match j, hj with
  | 0, _ => rfl
  | 1, _ => rfl
  | 2, _ => rfl
  | 3, _ => rfl
  | 4, _ => rfl
  | j + 5, h => exact absurd h (by omega)
theorem ol_O : Cond.methodLink R_O 3 objectInit ∈ WS := ws_t (List.mem_of_getElem? (i := 113) (by decide +kernel)) (by decide +kernel)
theorem ni_O : Cond.instantiable R_O 1 ∈ WS := ws_t (List.mem_of_getElem? (i := 109) (by decide +kernel)) (by decide +kernel)
theorem nf_O {ad : Nat → Nat} : ∀ j, j < 1 → defaultValue (tq_O j) = vp_V (([.null] : List Value).map (ax_v ad)) j := by
  intro j hj
  match j, hj with
  | 0, _ => rfl
  | j + 1, h => exact absurd h (by omega)
theorem ol_X : Cond.methodLink R_X 3 objectInit ∈ WS := ws_t (List.mem_of_getElem? (i := 139) (by decide +kernel)) (by decide +kernel)
theorem ni_X : Cond.instantiable R_X 5 ∈ WS := ws_t (List.mem_of_getElem? (i := 135) (by decide +kernel)) (by decide +kernel)
theorem nf_X {ad : Nat → Nat} : ∀ j, j < 5 → defaultValue (tq_X j) = vp_V (([.null, .null, .int 0, .int 0, .int 0] : List Value).map (ax_v ad)) j := by
  intro j hj
  match j, hj with
  | 0, _ => rfl
  | 1, _ => rfl
  | 2, _ => rfl
  | 3, _ => rfl
  | 4, _ => rfl
  | j + 5, h => exact absurd h (by omega)
theorem ol_T : Cond.methodLink R_T 3 objectInit ∈ WS := ws_t (List.mem_of_getElem? (i := 85) (by decide +kernel)) (by decide +kernel)
theorem ni_T : Cond.instantiable R_T 5 ∈ WS := ws_t (List.mem_of_getElem? (i := 81) (by decide +kernel)) (by decide +kernel)
theorem nf_T {ad : Nat → Nat} : ∀ j, j < 5 → defaultValue (tq_T j) = vp_V (([.null, .null, .int 0, .int 0, .int 0] : List Value).map (ax_v ad)) j := by
  intro j hj
  match j, hj with
  | 0, _ => rfl
  | 1, _ => rfl
  | 2, _ => rfl
  | 3, _ => rfl
  | 4, _ => rfl
  | j + 5, h => exact absurd h (by omega)
theorem ol_F : Cond.methodLink R_F 3 objectInit ∈ WS := ws_t (List.mem_of_getElem? (i := 25) (by decide +kernel)) (by decide +kernel)
theorem ni_F : Cond.instantiable R_F 9 ∈ WS := ws_t (List.mem_of_getElem? (i := 21) (by decide +kernel)) (by decide +kernel)
theorem nf_F {ad : Nat → Nat} : ∀ j, j < 9 → defaultValue (tq_F j) = vp_V (([.null, .null, .null, .null, .null, .null, .int 0, .int 0, .int 0] : List Value).map (ax_v ad)) j := by
  intro j hj
  match j, hj with
  | 0, _ => rfl
  | 1, _ => rfl
  | 2, _ => rfl
  | 3, _ => rfl
  | 4, _ => rfl
  | 5, _ => rfl
  | 6, _ => rfl
  | 7, _ => rfl
  | 8, _ => rfl
  | j + 9, h => exact absurd h (by omega)
theorem ol_M : Cond.methodLink R_M 1 objectInit ∈ WS := ws_t (List.mem_of_getElem? (i := 633) (by decide +kernel)) (by decide +kernel)
theorem ni_M : Cond.instantiable R_M 19 ∈ WS := ws_t (List.mem_of_getElem? (i := 629) (by decide +kernel)) (by decide +kernel)
theorem nf_M {ad : Nat → Nat} : ∀ j, j < 19 → defaultValue (tq_M j) = vp_V (([.int 0, .int 0, .null, .null, .int 0, .null, .null, .null, .null, .int 0, .null, .null, .null, .null, .null, .null, .int 0, .null, .null] : List Value).map (ax_v ad)) j := by
  intro j hj
  match j, hj with
  | 0, _ => rfl
  | 1, _ => rfl
  | 2, _ => rfl
  | 3, _ => rfl
  | 4, _ => rfl
  | 5, _ => rfl
  | 6, _ => rfl
  | 7, _ => rfl
  | 8, _ => rfl
  | 9, _ => rfl
  | 10, _ => rfl
  | 11, _ => rfl
  | 12, _ => rfl
  | 13, _ => rfl
  | 14, _ => rfl
  | 15, _ => rfl
  | 16, _ => rfl
  | 17, _ => rfl
  | 18, _ => rfl
  | j + 19, h => exact absurd h (by omega)
theorem nk_F_9 : Cond.classLink R_F 9 R_E ∈ WS := ws_t (List.mem_of_getElem? (i := 28) (by decide +kernel)) (by decide +kernel)
theorem nk_F_16 : Cond.classLink R_F 16 R_G ∈ WS := ws_t (List.mem_of_getElem? (i := 52) (by decide +kernel)) (by decide +kernel)
theorem nk_F_23 : Cond.classLink R_F 23 R_T ∈ WS := ws_t (List.mem_of_getElem? (i := 80) (by decide +kernel)) (by decide +kernel)
theorem gk_T : Cond.classLink R_T 9 "[[J" ∈ WS := ws_t (List.mem_of_getElem? (i := 86) (by decide +kernel)) (by decide +kernel)
theorem nk_F_30 : Cond.classLink R_F 30 R_O ∈ WS := ws_t (List.mem_of_getElem? (i := 108) (by decide +kernel)) (by decide +kernel)
theorem nk_F_37 : Cond.classLink R_F 37 R_D ∈ WS := ws_t (List.mem_of_getElem? (i := 118) (by decide +kernel)) (by decide +kernel)
theorem nk_F_44 : Cond.classLink R_F 44 R_X ∈ WS := ws_t (List.mem_of_getElem? (i := 134) (by decide +kernel)) (by decide +kernel)
theorem gk_X : Cond.classLink R_X 15 "[[J" ∈ WS := ws_t (List.mem_of_getElem? (i := 140) (by decide +kernel)) (by decide +kernel)
-- FaultTreeDesk$Diagram.<init>()V
theorem d_D_init_0 : decode b_D_init 0 = .ok (.aload_n 0, 1) := by decide +kernel
theorem d_D_init_1 : decode b_D_init 1 = .ok (.invokespecial 3, 3) := by decide +kernel
theorem d_D_init_4 : decode b_D_init 4 = .ok (.aload_n 0, 1) := by decide +kernel
theorem d_D_init_5 : decode b_D_init 5 = .ok (.sipush 1024, 3) := by decide +kernel
theorem d_D_init_8 : decode b_D_init 8 = .ok (.newarray .int, 2) := by decide +kernel
theorem d_D_init_10 : decode b_D_init 10 = .ok (.putfield 9, 3) := by decide +kernel
theorem d_D_init_13 : decode b_D_init 13 = .ok (.aload_n 0, 1) := by decide +kernel
theorem d_D_init_14 : decode b_D_init 14 = .ok (.sipush 1024, 3) := by decide +kernel
theorem d_D_init_17 : decode b_D_init 17 = .ok (.newarray .int, 2) := by decide +kernel
theorem d_D_init_19 : decode b_D_init 19 = .ok (.putfield 15, 3) := by decide +kernel
theorem d_D_init_22 : decode b_D_init 22 = .ok (.aload_n 0, 1) := by decide +kernel
theorem d_D_init_23 : decode b_D_init 23 = .ok (.iconst 0, 1) := by decide +kernel
theorem d_D_init_24 : decode b_D_init 24 = .ok (.putfield 18, 3) := by decide +kernel
theorem d_D_init_27 : decode b_D_init 27 = .ok (.return_, 1) := by decide +kernel
def rm_D_init : Room := { frames := 2, cells := 2, slots := 2048, locals := 60 }
def f_D_init (fu : Nat) (v0 : Nat) (w : List va_E) : Option (List va_E) := ((hp_na w 0 1024).bind fun w1 => ((hp_pr w1 v0 0 0 w.length).bind fun w2 => ((hp_na w2 0 1024).bind fun w3 => ((hp_pr w3 v0 0 1 w2.length).bind fun w4 => ((hp_pi w4 v0 0 2 (0 : Int32)).bind fun w5 => (some w5))))))
section
variable {p : Program} {l : Launch} {e : Env} {s : State} {m : MethodId} {args : Array Value} {below : List Frame} {meth : Method} {c : Code} {D : va_G} {ca : Nat → Nat} {A : Nat → Prop} {ad : Nat → Nat}
set_option maxRecDepth 100000 in
set_option maxHeartbeats 4000000 in
theorem v_D_init (K : av_K p s m args meth c D cl8 ca A b_D_init 1 R_D WS) (G : av_G NS tabON A s s.heap) (O : va_AOA .long s) (hin : meth.name = "<init>") (hr : meth.sig.returnType = none) (fu : Nat) {r : List va_E} {b : Nat} (v0 : Nat) (w : List va_E) (hs0 : s.heap.size = b + w.length) (had : ∀ k, w.length ≤ k → ad k = b + k) (he : s.heap.size + 0 = b + w.length) (h : f_D_init fu v0 w = some r) : av_V p l e rm_D_init s m args below meth c D cl8 A ad ca 1 (MQ below (va_Qv (fun u => u = r ∧ u.length = w.length + 2) (av_B D cl8 ad ca A) A) args s 2 2048 A) 0 0 0 [some (.ref v0)] [] w := by
  unfold f_D_init at h
  refine av_aload_n K d_D_init_0 rfl rfl ?_
  refine av_oi K ol_D oi_m oi_c (Nat.le_of_ble_eq_true rfl) (Nat.le_of_ble_eq_true rfl) d_D_init_1 ?_
  refine av_aload_n K d_D_init_4 rfl rfl ?_
  refine av_sipush (v := (1024 : Int32)) K d_D_init_5 (by decide) ?_
  obtain ⟨w1, ew1, h⟩ := hp_bd h
  refine av_na (k := 0) (N := 1024) (z := (1024, .inl (fun _ => 0))) K hs0 he had ac_int rfl rfl (fun h => h) (fun _ => rfl) ⟨by decide, by decide⟩ (Nat.le_of_ble_eq_true rfl) (Nat.le_of_ble_eq_true rfl) (Nat.le_of_ble_eq_true rfl) d_D_init_8 (Option.some.inj ew1) ?_
  have he : s.heap.size + 1 = b + w1.length := by rw [← Option.some.inj ew1, List.length_append]; simp only [List.length_cons, List.length_nil]; omega
  obtain ⟨w2, ew2, h⟩ := hp_bd h
  refine av_pr (kf := 0) K hin la_D tq_D t_D_ok n_D rfl (Nat.le_of_ble_eq_true rfl) fk_D_9 rfl rfl (t_D_ok 0 (Nat.le_of_ble_eq_true rfl)) (fun _ => rfl) (fun _ => rfl) d_D_init_10 ew2 ?_
  rw [← hp_pr_len ew2] at he
  refine av_aload_n K d_D_init_13 rfl rfl ?_
  refine av_sipush (v := (1024 : Int32)) K d_D_init_14 (by decide) ?_
  obtain ⟨w3, ew3, h⟩ := hp_bd h
  refine av_na (k := 0) (N := 1024) (z := (1024, .inl (fun _ => 0))) K hs0 he had ac_int rfl rfl (fun h => h) (fun _ => rfl) ⟨by decide, by decide⟩ (Nat.le_of_ble_eq_true rfl) (Nat.le_of_ble_eq_true rfl) (Nat.le_of_ble_eq_true rfl) d_D_init_17 (Option.some.inj ew3) ?_
  have he : s.heap.size + 2 = b + w3.length := by rw [← Option.some.inj ew3, List.length_append]; simp only [List.length_cons, List.length_nil]; omega
  obtain ⟨w4, ew4, h⟩ := hp_bd h
  refine av_pr (kf := 1) K hin la_D tq_D t_D_ok n_D rfl (Nat.le_of_ble_eq_true rfl) fk_D_15 rfl rfl (t_D_ok 1 (Nat.le_of_ble_eq_true rfl)) (fun _ => rfl) (fun _ => rfl) d_D_init_19 ew4 ?_
  rw [← hp_pr_len ew4] at he
  refine av_aload_n K d_D_init_22 rfl rfl ?_
  refine av_iconst (v := (0 : Int32)) K d_D_init_23 (by decide) ?_
  obtain ⟨w5, ew5, h⟩ := hp_bd h
  refine hv_pi K fp_D_18 d_D_init_24 ew5 ?_
  rw [← hp_pi_len ew5] at he
  obtain rfl := Option.some.inj h
  exact av_return K hr d_D_init_27 ⟨rfl, by omega⟩
end
set_option maxRecDepth 100000 in
theorem c_D_init {l : Launch} {D : va_G} {ca : Nat → Nat} {fu : Nat} {v0 : Nat} {w r : List va_E} (h : f_D_init fu v0 w = some r) : av_Nv l D cl8 ca NS tabON y_D_init w_D_init rm_D_init 2 2048 [.ref v0] w (fun u => u = r ∧ u.length = w.length + 2) :=
  av_inN (cc := b_D_init) (nL := 1) (by decide +kernel) rfl rfl (Nat.le_of_ble_eq_true rfl) (fun p e s m args below meth c A ad b K G O hin hr hs0 had => v_D_init K G O hin hr fu v0 w hs0 had hs0 h)

-- FaultTreeDesk$Events.<init>()V
theorem d_E_init_0 : decode b_E_init 0 = .ok (.aload_n 0, 1) := by decide +kernel
theorem d_E_init_1 : decode b_E_init 1 = .ok (.invokespecial 3, 3) := by decide +kernel
theorem d_E_init_4 : decode b_E_init 4 = .ok (.aload_n 0, 1) := by decide +kernel
theorem d_E_init_5 : decode b_E_init 5 = .ok (.bipush 10, 2) := by decide +kernel
theorem d_E_init_7 : decode b_E_init 7 = .ok (.newarray .int, 2) := by decide +kernel
theorem d_E_init_9 : decode b_E_init 9 = .ok (.putfield 9, 3) := by decide +kernel
theorem d_E_init_12 : decode b_E_init 12 = .ok (.aload_n 0, 1) := by decide +kernel
theorem d_E_init_13 : decode b_E_init 13 = .ok (.bipush 10, 2) := by decide +kernel
theorem d_E_init_15 : decode b_E_init 15 = .ok (.newarray .int, 2) := by decide +kernel
theorem d_E_init_17 : decode b_E_init 17 = .ok (.putfield 15, 3) := by decide +kernel
theorem d_E_init_20 : decode b_E_init 20 = .ok (.aload_n 0, 1) := by decide +kernel
theorem d_E_init_21 : decode b_E_init 21 = .ok (.iconst 0, 1) := by decide +kernel
theorem d_E_init_22 : decode b_E_init 22 = .ok (.putfield 18, 3) := by decide +kernel
theorem d_E_init_25 : decode b_E_init 25 = .ok (.return_, 1) := by decide +kernel
def rm_E_init : Room := { frames := 2, cells := 2, slots := 20, locals := 60 }
def f_E_init (fu : Nat) (v0 : Nat) (w : List va_E) : Option (List va_E) := ((hp_na w 0 10).bind fun w1 => ((hp_pr w1 v0 1 0 w.length).bind fun w2 => ((hp_na w2 0 10).bind fun w3 => ((hp_pr w3 v0 1 1 w2.length).bind fun w4 => ((hp_pi w4 v0 1 2 (0 : Int32)).bind fun w5 => (some w5))))))
section
variable {p : Program} {l : Launch} {e : Env} {s : State} {m : MethodId} {args : Array Value} {below : List Frame} {meth : Method} {c : Code} {D : va_G} {ca : Nat → Nat} {A : Nat → Prop} {ad : Nat → Nat}
set_option maxRecDepth 100000 in
set_option maxHeartbeats 4000000 in
theorem v_E_init (K : av_K p s m args meth c D cl8 ca A b_E_init 1 R_E WS) (G : av_G NS tabON A s s.heap) (O : va_AOA .long s) (hin : meth.name = "<init>") (hr : meth.sig.returnType = none) (fu : Nat) {r : List va_E} {b : Nat} (v0 : Nat) (w : List va_E) (hs0 : s.heap.size = b + w.length) (had : ∀ k, w.length ≤ k → ad k = b + k) (he : s.heap.size + 0 = b + w.length) (h : f_E_init fu v0 w = some r) : av_V p l e rm_E_init s m args below meth c D cl8 A ad ca 1 (MQ below (va_Qv (fun u => u = r ∧ u.length = w.length + 2) (av_B D cl8 ad ca A) A) args s 2 20 A) 0 0 0 [some (.ref v0)] [] w := by
  unfold f_E_init at h
  refine av_aload_n K d_E_init_0 rfl rfl ?_
  refine av_oi K ol_E oi_m oi_c (Nat.le_of_ble_eq_true rfl) (Nat.le_of_ble_eq_true rfl) d_E_init_1 ?_
  refine av_aload_n K d_E_init_4 rfl rfl ?_
  refine av_bipush (v := (10 : Int32)) K d_E_init_5 (by decide) ?_
  obtain ⟨w1, ew1, h⟩ := hp_bd h
  refine av_na (k := 0) (N := 10) (z := (10, .inl (fun _ => 0))) K hs0 he had ac_int rfl rfl (fun h => h) (fun _ => rfl) ⟨by decide, by decide⟩ (Nat.le_of_ble_eq_true rfl) (Nat.le_of_ble_eq_true rfl) (Nat.le_of_ble_eq_true rfl) d_E_init_7 (Option.some.inj ew1) ?_
  have he : s.heap.size + 1 = b + w1.length := by rw [← Option.some.inj ew1, List.length_append]; simp only [List.length_cons, List.length_nil]; omega
  obtain ⟨w2, ew2, h⟩ := hp_bd h
  refine av_pr (kf := 0) K hin la_E tq_E t_E_ok n_E rfl (Nat.le_of_ble_eq_true rfl) fk_E_9 rfl rfl (t_E_ok 0 (Nat.le_of_ble_eq_true rfl)) (fun _ => rfl) (fun _ => rfl) d_E_init_9 ew2 ?_
  rw [← hp_pr_len ew2] at he
  refine av_aload_n K d_E_init_12 rfl rfl ?_
  refine av_bipush (v := (10 : Int32)) K d_E_init_13 (by decide) ?_
  obtain ⟨w3, ew3, h⟩ := hp_bd h
  refine av_na (k := 0) (N := 10) (z := (10, .inl (fun _ => 0))) K hs0 he had ac_int rfl rfl (fun h => h) (fun _ => rfl) ⟨by decide, by decide⟩ (Nat.le_of_ble_eq_true rfl) (Nat.le_of_ble_eq_true rfl) (Nat.le_of_ble_eq_true rfl) d_E_init_15 (Option.some.inj ew3) ?_
  have he : s.heap.size + 2 = b + w3.length := by rw [← Option.some.inj ew3, List.length_append]; simp only [List.length_cons, List.length_nil]; omega
  obtain ⟨w4, ew4, h⟩ := hp_bd h
  refine av_pr (kf := 1) K hin la_E tq_E t_E_ok n_E rfl (Nat.le_of_ble_eq_true rfl) fk_E_15 rfl rfl (t_E_ok 1 (Nat.le_of_ble_eq_true rfl)) (fun _ => rfl) (fun _ => rfl) d_E_init_17 ew4 ?_
  rw [← hp_pr_len ew4] at he
  refine av_aload_n K d_E_init_20 rfl rfl ?_
  refine av_iconst (v := (0 : Int32)) K d_E_init_21 (by decide) ?_
  obtain ⟨w5, ew5, h⟩ := hp_bd h
  refine hv_pi K fp_E_18 d_E_init_22 ew5 ?_
  rw [← hp_pi_len ew5] at he
  obtain rfl := Option.some.inj h
  exact av_return K hr d_E_init_25 ⟨rfl, by omega⟩
end
set_option maxRecDepth 100000 in
theorem c_E_init {l : Launch} {D : va_G} {ca : Nat → Nat} {fu : Nat} {v0 : Nat} {w r : List va_E} (h : f_E_init fu v0 w = some r) : av_Nv l D cl8 ca NS tabON y_E_init w_E_init rm_E_init 2 20 [.ref v0] w (fun u => u = r ∧ u.length = w.length + 2) :=
  av_inN (cc := b_E_init) (nL := 1) (by decide +kernel) rfl rfl (Nat.le_of_ble_eq_true rfl) (fun p e s m args below meth c A ad b K G O hin hr hs0 had => v_E_init K G O hin hr fu v0 w hs0 had hs0 h)

-- FaultTreeDesk$Gates.<init>()V
theorem d_G_init_0 : decode b_G_init 0 = .ok (.aload_n 0, 1) := by decide +kernel
theorem d_G_init_1 : decode b_G_init 1 = .ok (.invokespecial 3, 3) := by decide +kernel
theorem d_G_init_4 : decode b_G_init 4 = .ok (.aload_n 0, 1) := by decide +kernel
theorem d_G_init_5 : decode b_G_init 5 = .ok (.bipush 12, 2) := by decide +kernel
theorem d_G_init_7 : decode b_G_init 7 = .ok (.newarray .int, 2) := by decide +kernel
theorem d_G_init_9 : decode b_G_init 9 = .ok (.putfield 9, 3) := by decide +kernel
theorem d_G_init_12 : decode b_G_init 12 = .ok (.aload_n 0, 1) := by decide +kernel
theorem d_G_init_13 : decode b_G_init 13 = .ok (.bipush 12, 2) := by decide +kernel
theorem d_G_init_15 : decode b_G_init 15 = .ok (.newarray .int, 2) := by decide +kernel
theorem d_G_init_17 : decode b_G_init 17 = .ok (.putfield 15, 3) := by decide +kernel
theorem d_G_init_20 : decode b_G_init 20 = .ok (.aload_n 0, 1) := by decide +kernel
theorem d_G_init_21 : decode b_G_init 21 = .ok (.bipush 12, 2) := by decide +kernel
theorem d_G_init_23 : decode b_G_init 23 = .ok (.newarray .int, 2) := by decide +kernel
theorem d_G_init_25 : decode b_G_init 25 = .ok (.putfield 18, 3) := by decide +kernel
theorem d_G_init_28 : decode b_G_init 28 = .ok (.aload_n 0, 1) := by decide +kernel
theorem d_G_init_29 : decode b_G_init 29 = .ok (.bipush 12, 2) := by decide +kernel
theorem d_G_init_31 : decode b_G_init 31 = .ok (.newarray .int, 2) := by decide +kernel
theorem d_G_init_33 : decode b_G_init 33 = .ok (.putfield 21, 3) := by decide +kernel
theorem d_G_init_36 : decode b_G_init 36 = .ok (.aload_n 0, 1) := by decide +kernel
theorem d_G_init_37 : decode b_G_init 37 = .ok (.iconst 0, 1) := by decide +kernel
theorem d_G_init_38 : decode b_G_init 38 = .ok (.putfield 24, 3) := by decide +kernel
theorem d_G_init_41 : decode b_G_init 41 = .ok (.return_, 1) := by decide +kernel
def rm_G_init : Room := { frames := 2, cells := 4, slots := 48, locals := 60 }
def f_G_init (fu : Nat) (v0 : Nat) (w : List va_E) : Option (List va_E) := ((hp_na w 0 12).bind fun w1 => ((hp_pr w1 v0 2 0 w.length).bind fun w2 => ((hp_na w2 0 12).bind fun w3 => ((hp_pr w3 v0 2 1 w2.length).bind fun w4 => ((hp_na w4 0 12).bind fun w5 => ((hp_pr w5 v0 2 2 w4.length).bind fun w6 => ((hp_na w6 0 12).bind fun w7 => ((hp_pr w7 v0 2 3 w6.length).bind fun w8 => ((hp_pi w8 v0 2 4 (0 : Int32)).bind fun w9 => (some w9))))))))))
section
variable {p : Program} {l : Launch} {e : Env} {s : State} {m : MethodId} {args : Array Value} {below : List Frame} {meth : Method} {c : Code} {D : va_G} {ca : Nat → Nat} {A : Nat → Prop} {ad : Nat → Nat}
set_option maxRecDepth 100000 in
set_option maxHeartbeats 4000000 in
theorem v_G_init (K : av_K p s m args meth c D cl8 ca A b_G_init 1 R_G WS) (G : av_G NS tabON A s s.heap) (O : va_AOA .long s) (hin : meth.name = "<init>") (hr : meth.sig.returnType = none) (fu : Nat) {r : List va_E} {b : Nat} (v0 : Nat) (w : List va_E) (hs0 : s.heap.size = b + w.length) (had : ∀ k, w.length ≤ k → ad k = b + k) (he : s.heap.size + 0 = b + w.length) (h : f_G_init fu v0 w = some r) : av_V p l e rm_G_init s m args below meth c D cl8 A ad ca 1 (MQ below (va_Qv (fun u => u = r ∧ u.length = w.length + 4) (av_B D cl8 ad ca A) A) args s 4 48 A) 0 0 0 [some (.ref v0)] [] w := by
  unfold f_G_init at h
  refine av_aload_n K d_G_init_0 rfl rfl ?_
  refine av_oi K ol_G oi_m oi_c (Nat.le_of_ble_eq_true rfl) (Nat.le_of_ble_eq_true rfl) d_G_init_1 ?_
  refine av_aload_n K d_G_init_4 rfl rfl ?_
  refine av_bipush (v := (12 : Int32)) K d_G_init_5 (by decide) ?_
  obtain ⟨w1, ew1, h⟩ := hp_bd h
  refine av_na (k := 0) (N := 12) (z := (12, .inl (fun _ => 0))) K hs0 he had ac_int rfl rfl (fun h => h) (fun _ => rfl) ⟨by decide, by decide⟩ (Nat.le_of_ble_eq_true rfl) (Nat.le_of_ble_eq_true rfl) (Nat.le_of_ble_eq_true rfl) d_G_init_7 (Option.some.inj ew1) ?_
  have he : s.heap.size + 1 = b + w1.length := by rw [← Option.some.inj ew1, List.length_append]; simp only [List.length_cons, List.length_nil]; omega
  obtain ⟨w2, ew2, h⟩ := hp_bd h
  refine av_pr (kf := 0) K hin la_G tq_G t_G_ok n_G rfl (Nat.le_of_ble_eq_true rfl) fk_G_9 rfl rfl (t_G_ok 0 (Nat.le_of_ble_eq_true rfl)) (fun _ => rfl) (fun _ => rfl) d_G_init_9 ew2 ?_
  rw [← hp_pr_len ew2] at he
  refine av_aload_n K d_G_init_12 rfl rfl ?_
  refine av_bipush (v := (12 : Int32)) K d_G_init_13 (by decide) ?_
  obtain ⟨w3, ew3, h⟩ := hp_bd h
  refine av_na (k := 0) (N := 12) (z := (12, .inl (fun _ => 0))) K hs0 he had ac_int rfl rfl (fun h => h) (fun _ => rfl) ⟨by decide, by decide⟩ (Nat.le_of_ble_eq_true rfl) (Nat.le_of_ble_eq_true rfl) (Nat.le_of_ble_eq_true rfl) d_G_init_15 (Option.some.inj ew3) ?_
  have he : s.heap.size + 2 = b + w3.length := by rw [← Option.some.inj ew3, List.length_append]; simp only [List.length_cons, List.length_nil]; omega
  obtain ⟨w4, ew4, h⟩ := hp_bd h
  refine av_pr (kf := 1) K hin la_G tq_G t_G_ok n_G rfl (Nat.le_of_ble_eq_true rfl) fk_G_15 rfl rfl (t_G_ok 1 (Nat.le_of_ble_eq_true rfl)) (fun _ => rfl) (fun _ => rfl) d_G_init_17 ew4 ?_
  rw [← hp_pr_len ew4] at he
  refine av_aload_n K d_G_init_20 rfl rfl ?_
  refine av_bipush (v := (12 : Int32)) K d_G_init_21 (by decide) ?_
  obtain ⟨w5, ew5, h⟩ := hp_bd h
  refine av_na (k := 0) (N := 12) (z := (12, .inl (fun _ => 0))) K hs0 he had ac_int rfl rfl (fun h => h) (fun _ => rfl) ⟨by decide, by decide⟩ (Nat.le_of_ble_eq_true rfl) (Nat.le_of_ble_eq_true rfl) (Nat.le_of_ble_eq_true rfl) d_G_init_23 (Option.some.inj ew5) ?_
  have he : s.heap.size + 3 = b + w5.length := by rw [← Option.some.inj ew5, List.length_append]; simp only [List.length_cons, List.length_nil]; omega
  obtain ⟨w6, ew6, h⟩ := hp_bd h
  refine av_pr (kf := 2) K hin la_G tq_G t_G_ok n_G rfl (Nat.le_of_ble_eq_true rfl) fk_G_18 rfl rfl (t_G_ok 2 (Nat.le_of_ble_eq_true rfl)) (fun _ => rfl) (fun _ => rfl) d_G_init_25 ew6 ?_
  rw [← hp_pr_len ew6] at he
  refine av_aload_n K d_G_init_28 rfl rfl ?_
  refine av_bipush (v := (12 : Int32)) K d_G_init_29 (by decide) ?_
  obtain ⟨w7, ew7, h⟩ := hp_bd h
  refine av_na (k := 0) (N := 12) (z := (12, .inl (fun _ => 0))) K hs0 he had ac_int rfl rfl (fun h => h) (fun _ => rfl) ⟨by decide, by decide⟩ (Nat.le_of_ble_eq_true rfl) (Nat.le_of_ble_eq_true rfl) (Nat.le_of_ble_eq_true rfl) d_G_init_31 (Option.some.inj ew7) ?_
  have he : s.heap.size + 4 = b + w7.length := by rw [← Option.some.inj ew7, List.length_append]; simp only [List.length_cons, List.length_nil]; omega
  obtain ⟨w8, ew8, h⟩ := hp_bd h
  refine av_pr (kf := 3) K hin la_G tq_G t_G_ok n_G rfl (Nat.le_of_ble_eq_true rfl) fk_G_21 rfl rfl (t_G_ok 3 (Nat.le_of_ble_eq_true rfl)) (fun _ => rfl) (fun _ => rfl) d_G_init_33 ew8 ?_
  rw [← hp_pr_len ew8] at he
  refine av_aload_n K d_G_init_36 rfl rfl ?_
  refine av_iconst (v := (0 : Int32)) K d_G_init_37 (by decide) ?_
  obtain ⟨w9, ew9, h⟩ := hp_bd h
  refine hv_pi K fp_G_24 d_G_init_38 ew9 ?_
  rw [← hp_pi_len ew9] at he
  obtain rfl := Option.some.inj h
  exact av_return K hr d_G_init_41 ⟨rfl, by omega⟩
end
set_option maxRecDepth 100000 in
theorem c_G_init {l : Launch} {D : va_G} {ca : Nat → Nat} {fu : Nat} {v0 : Nat} {w r : List va_E} (h : f_G_init fu v0 w = some r) : av_Nv l D cl8 ca NS tabON y_G_init w_G_init rm_G_init 4 48 [.ref v0] w (fun u => u = r ∧ u.length = w.length + 4) :=
  av_inN (cc := b_G_init) (nL := 1) (by decide +kernel) rfl rfl (Nat.le_of_ble_eq_true rfl) (fun p e s m args below meth c A ad b K G O hin hr hs0 had => v_G_init K G O hin hr fu v0 w hs0 had hs0 h)

-- FaultTreeDesk$Odds.<init>()V
theorem d_O_init_0 : decode b_O_init 0 = .ok (.aload_n 0, 1) := by decide +kernel
theorem d_O_init_1 : decode b_O_init 1 = .ok (.invokespecial 3, 3) := by decide +kernel
theorem d_O_init_4 : decode b_O_init 4 = .ok (.aload_n 0, 1) := by decide +kernel
theorem d_O_init_5 : decode b_O_init 5 = .ok (.sipush 1024, 3) := by decide +kernel
theorem d_O_init_8 : decode b_O_init 8 = .ok (.newarray .long, 2) := by decide +kernel
theorem d_O_init_10 : decode b_O_init 10 = .ok (.putfield 9, 3) := by decide +kernel
theorem d_O_init_13 : decode b_O_init 13 = .ok (.return_, 1) := by decide +kernel
def rm_O_init : Room := { frames := 2, cells := 1, slots := 1024, locals := 60 }
def f_O_init (fu : Nat) (v0 : Nat) (w : List va_E) : Option (List va_E) := ((hp_na w 1 1024).bind fun w1 => ((hp_pr w1 v0 3 0 w.length).bind fun w2 => (some w2)))
section
variable {p : Program} {l : Launch} {e : Env} {s : State} {m : MethodId} {args : Array Value} {below : List Frame} {meth : Method} {c : Code} {D : va_G} {ca : Nat → Nat} {A : Nat → Prop} {ad : Nat → Nat}
set_option maxRecDepth 100000 in
set_option maxHeartbeats 4000000 in
theorem v_O_init (K : av_K p s m args meth c D cl8 ca A b_O_init 1 R_O WS) (G : av_G NS tabON A s s.heap) (O : va_AOA .long s) (hin : meth.name = "<init>") (hr : meth.sig.returnType = none) (fu : Nat) {r : List va_E} {b : Nat} (v0 : Nat) (w : List va_E) (hs0 : s.heap.size = b + w.length) (had : ∀ k, w.length ≤ k → ad k = b + k) (he : s.heap.size + 0 = b + w.length) (h : f_O_init fu v0 w = some r) : av_V p l e rm_O_init s m args below meth c D cl8 A ad ca 1 (MQ below (va_Qv (fun u => u = r ∧ u.length = w.length + 1) (av_B D cl8 ad ca A) A) args s 1 1024 A) 0 0 0 [some (.ref v0)] [] w := by
  unfold f_O_init at h
  refine av_aload_n K d_O_init_0 rfl rfl ?_
  refine av_oi K ol_O oi_m oi_c (Nat.le_of_ble_eq_true rfl) (Nat.le_of_ble_eq_true rfl) d_O_init_1 ?_
  refine av_aload_n K d_O_init_4 rfl rfl ?_
  refine av_sipush (v := (1024 : Int32)) K d_O_init_5 (by decide) ?_
  obtain ⟨w1, ew1, h⟩ := hp_bd h
  refine av_na (k := 1) (N := 1024) (z := (1024, .inr (.inl (fun _ => 0)))) K hs0 he had ac_long rfl rfl (fun h => h) (fun _ => rfl) ⟨by decide, by decide⟩ (Nat.le_of_ble_eq_true rfl) (Nat.le_of_ble_eq_true rfl) (Nat.le_of_ble_eq_true rfl) d_O_init_8 (Option.some.inj ew1) ?_
  have he : s.heap.size + 1 = b + w1.length := by rw [← Option.some.inj ew1, List.length_append]; simp only [List.length_cons, List.length_nil]; omega
  obtain ⟨w2, ew2, h⟩ := hp_bd h
  refine av_pr (kf := 0) K hin la_O tq_O t_O_ok n_O rfl (Nat.le_of_ble_eq_true rfl) fk_O_9 rfl rfl (t_O_ok 0 (Nat.le_of_ble_eq_true rfl)) (fun _ => rfl) (fun _ => rfl) d_O_init_10 ew2 ?_
  rw [← hp_pr_len ew2] at he
  obtain rfl := Option.some.inj h
  exact av_return K hr d_O_init_13 ⟨rfl, by omega⟩
end
set_option maxRecDepth 100000 in
theorem c_O_init {l : Launch} {D : va_G} {ca : Nat → Nat} {fu : Nat} {v0 : Nat} {w r : List va_E} (h : f_O_init fu v0 w = some r) : av_Nv l D cl8 ca NS tabON y_O_init w_O_init rm_O_init 1 1024 [.ref v0] w (fun u => u = r ∧ u.length = w.length + 1) :=
  av_inN (cc := b_O_init) (nL := 1) (by decide +kernel) rfl rfl (Nat.le_of_ble_eq_true rfl) (fun p e s m args below meth c A ad b K G O hin hr hs0 had => v_O_init K G O hin hr fu v0 w hs0 had hs0 h)

-- FaultTreeDesk$Terms.<init>()V
theorem d_X_init_0 : decode b_X_init 0 = .ok (.aload_n 0, 1) := by decide +kernel
theorem d_X_init_1 : decode b_X_init 1 = .ok (.invokespecial 3, 3) := by decide +kernel
theorem d_X_init_4 : decode b_X_init 4 = .ok (.aload_n 0, 1) := by decide +kernel
theorem d_X_init_5 : decode b_X_init 5 = .ok (.sipush 300, 3) := by decide +kernel
theorem d_X_init_8 : decode b_X_init 8 = .ok (.newarray .int, 2) := by decide +kernel
theorem d_X_init_10 : decode b_X_init 10 = .ok (.putfield 9, 3) := by decide +kernel
theorem d_X_init_13 : decode b_X_init 13 = .ok (.aload_n 0, 1) := by decide +kernel
theorem d_X_init_14 : decode b_X_init 14 = .ok (.bipush 11, 2) := by decide +kernel
theorem d_X_init_16 : decode b_X_init 16 = .ok (.bipush 16, 2) := by decide +kernel
theorem d_X_init_18 : decode b_X_init 18 = .ok (.multianewarray 15 2, 4) := by decide +kernel
theorem d_X_init_22 : decode b_X_init 22 = .ok (.putfield 17, 3) := by decide +kernel
theorem d_X_init_25 : decode b_X_init 25 = .ok (.aload_n 0, 1) := by decide +kernel
theorem d_X_init_26 : decode b_X_init 26 = .ok (.iconst 1, 1) := by decide +kernel
theorem d_X_init_27 : decode b_X_init 27 = .ok (.putfield 20, 3) := by decide +kernel
theorem d_X_init_30 : decode b_X_init 30 = .ok (.aload_n 0, 1) := by decide +kernel
theorem d_X_init_31 : decode b_X_init 31 = .ok (.iconst 0, 1) := by decide +kernel
theorem d_X_init_32 : decode b_X_init 32 = .ok (.putfield 24, 3) := by decide +kernel
theorem d_X_init_35 : decode b_X_init 35 = .ok (.aload_n 0, 1) := by decide +kernel
theorem d_X_init_36 : decode b_X_init 36 = .ok (.iconst 0, 1) := by decide +kernel
theorem d_X_init_37 : decode b_X_init 37 = .ok (.putfield 27, 3) := by decide +kernel
theorem d_X_init_40 : decode b_X_init 40 = .ok (.return_, 1) := by decide +kernel
def rm_X_init : Room := { frames := 2, cells := 13, slots := 487, locals := 60 }
def f_X_init (fu : Nat) (v0 : Nat) (w : List va_E) : Option (List va_E) := ((hp_na w 0 300).bind fun w1 => ((hp_pr w1 v0 4 0 w.length).bind fun w2 => ((hp_ng w2 11 16).bind fun w3 => ((hp_pr w3 v0 4 1 w2.length).bind fun w4 => ((hp_pi w4 v0 4 2 (1 : Int32)).bind fun w5 => ((hp_pi w5 v0 4 3 (0 : Int32)).bind fun w6 => ((hp_pz w6 v0 4 4 (0 : Int32)).bind fun w7 => (some w7))))))))
section
variable {p : Program} {l : Launch} {e : Env} {s : State} {m : MethodId} {args : Array Value} {below : List Frame} {meth : Method} {c : Code} {D : va_G} {ca : Nat → Nat} {A : Nat → Prop} {ad : Nat → Nat}
set_option maxRecDepth 100000 in
set_option maxHeartbeats 4000000 in
theorem v_X_init (K : av_K p s m args meth c D cl8 ca A b_X_init 1 R_X WS) (G : av_G NS tabON A s s.heap) (O : va_AOA .long s) (hin : meth.name = "<init>") (hr : meth.sig.returnType = none) (fu : Nat) {r : List va_E} {b : Nat} (v0 : Nat) (w : List va_E) (hs0 : s.heap.size = b + w.length) (had : ∀ k, w.length ≤ k → ad k = b + k) (he : s.heap.size + 0 = b + w.length) (h : f_X_init fu v0 w = some r) : av_V p l e rm_X_init s m args below meth c D cl8 A ad ca 1 (MQ below (va_Qv (fun u => u = r ∧ u.length = w.length + 13) (av_B D cl8 ad ca A) A) args s 13 487 A) 0 0 0 [some (.ref v0)] [] w := by
  unfold f_X_init at h
  refine av_aload_n K d_X_init_0 rfl rfl ?_
  refine av_oi K ol_X oi_m oi_c (Nat.le_of_ble_eq_true rfl) (Nat.le_of_ble_eq_true rfl) d_X_init_1 ?_
  refine av_aload_n K d_X_init_4 rfl rfl ?_
  refine av_sipush (v := (300 : Int32)) K d_X_init_5 (by decide) ?_
  obtain ⟨w1, ew1, h⟩ := hp_bd h
  refine av_na (k := 0) (N := 300) (z := (300, .inl (fun _ => 0))) K hs0 he had ac_int rfl rfl (fun h => h) (fun _ => rfl) ⟨by decide, by decide⟩ (Nat.le_of_ble_eq_true rfl) (Nat.le_of_ble_eq_true rfl) (Nat.le_of_ble_eq_true rfl) d_X_init_8 (Option.some.inj ew1) ?_
  have he : s.heap.size + 1 = b + w1.length := by rw [← Option.some.inj ew1, List.length_append]; simp only [List.length_cons, List.length_nil]; omega
  obtain ⟨w2, ew2, h⟩ := hp_bd h
  refine av_pr (kf := 0) K hin la_X tq_X t_X_ok n_X rfl (Nat.le_of_ble_eq_true rfl) fk_X_9 rfl rfl (t_X_ok 0 (Nat.le_of_ble_eq_true rfl)) (fun _ => rfl) (fun _ => rfl) d_X_init_10 ew2 ?_
  rw [← hp_pr_len ew2] at he
  refine av_aload_n K d_X_init_13 rfl rfl ?_
  refine av_bipush (v := (11 : Int32)) K d_X_init_14 (by decide) ?_
  refine av_bipush (v := (16 : Int32)) K d_X_init_16 (by decide) ?_
  obtain ⟨w3, ew3, h⟩ := hp_bd h
  refine av_mg (N := 11) (M := 16) K O hs0 he had gk_X ac_long ⟨by decide, by decide⟩ ⟨by decide, by decide⟩ (Nat.le_of_ble_eq_true rfl) (Nat.le_of_ble_eq_true rfl) (Nat.le_of_ble_eq_true rfl) (Nat.le_of_ble_eq_true rfl) d_X_init_18 ew3 ?_
  have he : s.heap.size + 13 = b + w3.length := by rw [← Option.some.inj ew3, List.length_append]; simp only [List.length_cons, List.length_replicate]; omega
  obtain ⟨w4, ew4, h⟩ := hp_bd h
  refine av_pr (kf := 1) K hin la_X tq_X t_X_ok n_X rfl (Nat.le_of_ble_eq_true rfl) fk_X_17 rfl rfl (t_X_ok 1 (Nat.le_of_ble_eq_true rfl)) (fun _ => rfl) (fun _ => rfl) d_X_init_22 ew4 ?_
  rw [← hp_pr_len ew4] at he
  refine av_aload_n K d_X_init_25 rfl rfl ?_
  refine av_iconst (v := (1 : Int32)) K d_X_init_26 (by decide) ?_
  obtain ⟨w5, ew5, h⟩ := hp_bd h
  refine hv_pi K fp_X_20 d_X_init_27 ew5 ?_
  rw [← hp_pi_len ew5] at he
  refine av_aload_n K d_X_init_30 rfl rfl ?_
  refine av_iconst (v := (0 : Int32)) K d_X_init_31 (by decide) ?_
  obtain ⟨w6, ew6, h⟩ := hp_bd h
  refine hv_pi K fp_X_24 d_X_init_32 ew6 ?_
  rw [← hp_pi_len ew6] at he
  refine av_aload_n K d_X_init_35 rfl rfl ?_
  refine av_iconst (v := (0 : Int32)) K d_X_init_36 (by decide) ?_
  obtain ⟨w7, ew7, h⟩ := hp_bd h
  refine hv_pz K fp_X_27 d_X_init_37 ew7 ?_
  rw [← hp_pz_len ew7] at he
  obtain rfl := Option.some.inj h
  exact av_return K hr d_X_init_40 ⟨rfl, by omega⟩
end
set_option maxRecDepth 100000 in
theorem c_X_init {l : Launch} {D : va_G} {ca : Nat → Nat} {fu : Nat} {v0 : Nat} {w r : List va_E} (h : f_X_init fu v0 w = some r) : av_Nv l D cl8 ca NS tabON y_X_init w_X_init rm_X_init 13 487 [.ref v0] w (fun u => u = r ∧ u.length = w.length + 13) :=
  av_inN (cc := b_X_init) (nL := 1) (by decide +kernel) rfl rfl (Nat.le_of_ble_eq_true rfl) (fun p e s m args below meth c A ad b K G O hin hr hs0 had => v_X_init K G O hin hr fu v0 w hs0 had hs0 h)

-- FaultTreeDesk$Truth.<init>()V
theorem d_T_init_0 : decode b_T_init 0 = .ok (.aload_n 0, 1) := by decide +kernel
theorem d_T_init_1 : decode b_T_init 1 = .ok (.invokespecial 3, 3) := by decide +kernel
theorem d_T_init_4 : decode b_T_init 4 = .ok (.aload_n 0, 1) := by decide +kernel
theorem d_T_init_5 : decode b_T_init 5 = .ok (.bipush 28, 2) := by decide +kernel
theorem d_T_init_7 : decode b_T_init 7 = .ok (.bipush 16, 2) := by decide +kernel
theorem d_T_init_9 : decode b_T_init 9 = .ok (.multianewarray 9 2, 4) := by decide +kernel
theorem d_T_init_13 : decode b_T_init 13 = .ok (.putfield 11, 3) := by decide +kernel
theorem d_T_init_16 : decode b_T_init 16 = .ok (.aload_n 0, 1) := by decide +kernel
theorem d_T_init_17 : decode b_T_init 17 = .ok (.iconst 4, 1) := by decide +kernel
theorem d_T_init_18 : decode b_T_init 18 = .ok (.newarray .int, 2) := by decide +kernel
theorem d_T_init_20 : decode b_T_init 20 = .ok (.putfield 16, 3) := by decide +kernel
theorem d_T_init_23 : decode b_T_init 23 = .ok (.aload_n 0, 1) := by decide +kernel
theorem d_T_init_24 : decode b_T_init 24 = .ok (.iconst 1, 1) := by decide +kernel
theorem d_T_init_25 : decode b_T_init 25 = .ok (.putfield 20, 3) := by decide +kernel
theorem d_T_init_28 : decode b_T_init 28 = .ok (.aload_n 0, 1) := by decide +kernel
theorem d_T_init_29 : decode b_T_init 29 = .ok (.iconst 1, 1) := by decide +kernel
theorem d_T_init_30 : decode b_T_init 30 = .ok (.putfield 24, 3) := by decide +kernel
theorem d_T_init_33 : decode b_T_init 33 = .ok (.aload_n 0, 1) := by decide +kernel
theorem d_T_init_34 : decode b_T_init 34 = .ok (.bipush 16, 2) := by decide +kernel
theorem d_T_init_36 : decode b_T_init 36 = .ok (.putfield 27, 3) := by decide +kernel
theorem d_T_init_39 : decode b_T_init 39 = .ok (.return_, 1) := by decide +kernel
def rm_T_init : Room := { frames := 2, cells := 30, slots := 480, locals := 60 }
def f_T_init (fu : Nat) (v0 : Nat) (w : List va_E) : Option (List va_E) := ((hp_ng w 28 16).bind fun w1 => ((hp_pr w1 v0 5 0 w.length).bind fun w2 => ((hp_na w2 0 4).bind fun w3 => ((hp_pr w3 v0 5 1 w2.length).bind fun w4 => ((hp_pi w4 v0 5 2 (1 : Int32)).bind fun w5 => ((hp_pi w5 v0 5 3 (1 : Int32)).bind fun w6 => ((hp_pi w6 v0 5 4 (16 : Int32)).bind fun w7 => (some w7))))))))
section
variable {p : Program} {l : Launch} {e : Env} {s : State} {m : MethodId} {args : Array Value} {below : List Frame} {meth : Method} {c : Code} {D : va_G} {ca : Nat → Nat} {A : Nat → Prop} {ad : Nat → Nat}
set_option maxRecDepth 100000 in
set_option maxHeartbeats 4000000 in
theorem v_T_init (K : av_K p s m args meth c D cl8 ca A b_T_init 1 R_T WS) (G : av_G NS tabON A s s.heap) (O : va_AOA .long s) (hin : meth.name = "<init>") (hr : meth.sig.returnType = none) (fu : Nat) {r : List va_E} {b : Nat} (v0 : Nat) (w : List va_E) (hs0 : s.heap.size = b + w.length) (had : ∀ k, w.length ≤ k → ad k = b + k) (he : s.heap.size + 0 = b + w.length) (h : f_T_init fu v0 w = some r) : av_V p l e rm_T_init s m args below meth c D cl8 A ad ca 1 (MQ below (va_Qv (fun u => u = r ∧ u.length = w.length + 30) (av_B D cl8 ad ca A) A) args s 30 480 A) 0 0 0 [some (.ref v0)] [] w := by
  unfold f_T_init at h
  refine av_aload_n K d_T_init_0 rfl rfl ?_
  refine av_oi K ol_T oi_m oi_c (Nat.le_of_ble_eq_true rfl) (Nat.le_of_ble_eq_true rfl) d_T_init_1 ?_
  refine av_aload_n K d_T_init_4 rfl rfl ?_
  refine av_bipush (v := (28 : Int32)) K d_T_init_5 (by decide) ?_
  refine av_bipush (v := (16 : Int32)) K d_T_init_7 (by decide) ?_
  obtain ⟨w1, ew1, h⟩ := hp_bd h
  refine av_mg (N := 28) (M := 16) K O hs0 he had gk_T ac_long ⟨by decide, by decide⟩ ⟨by decide, by decide⟩ (Nat.le_of_ble_eq_true rfl) (Nat.le_of_ble_eq_true rfl) (Nat.le_of_ble_eq_true rfl) (Nat.le_of_ble_eq_true rfl) d_T_init_9 ew1 ?_
  have he : s.heap.size + 29 = b + w1.length := by rw [← Option.some.inj ew1, List.length_append]; simp only [List.length_cons, List.length_replicate]; omega
  obtain ⟨w2, ew2, h⟩ := hp_bd h
  refine av_pr (kf := 0) K hin la_T tq_T t_T_ok n_T rfl (Nat.le_of_ble_eq_true rfl) fk_T_11 rfl rfl (t_T_ok 0 (Nat.le_of_ble_eq_true rfl)) (fun _ => rfl) (fun _ => rfl) d_T_init_13 ew2 ?_
  rw [← hp_pr_len ew2] at he
  refine av_aload_n K d_T_init_16 rfl rfl ?_
  refine av_iconst (v := (4 : Int32)) K d_T_init_17 (by decide) ?_
  obtain ⟨w3, ew3, h⟩ := hp_bd h
  refine av_na (k := 0) (N := 4) (z := (4, .inl (fun _ => 0))) K hs0 he had ac_int rfl rfl (fun h => h) (fun _ => rfl) ⟨by decide, by decide⟩ (Nat.le_of_ble_eq_true rfl) (Nat.le_of_ble_eq_true rfl) (Nat.le_of_ble_eq_true rfl) d_T_init_18 (Option.some.inj ew3) ?_
  have he : s.heap.size + 30 = b + w3.length := by rw [← Option.some.inj ew3, List.length_append]; simp only [List.length_cons, List.length_nil]; omega
  obtain ⟨w4, ew4, h⟩ := hp_bd h
  refine av_pr (kf := 1) K hin la_T tq_T t_T_ok n_T rfl (Nat.le_of_ble_eq_true rfl) fk_T_16 rfl rfl (t_T_ok 1 (Nat.le_of_ble_eq_true rfl)) (fun _ => rfl) (fun _ => rfl) d_T_init_20 ew4 ?_
  rw [← hp_pr_len ew4] at he
  refine av_aload_n K d_T_init_23 rfl rfl ?_
  refine av_iconst (v := (1 : Int32)) K d_T_init_24 (by decide) ?_
  obtain ⟨w5, ew5, h⟩ := hp_bd h
  refine hv_pi K fp_T_20 d_T_init_25 ew5 ?_
  rw [← hp_pi_len ew5] at he
  refine av_aload_n K d_T_init_28 rfl rfl ?_
  refine av_iconst (v := (1 : Int32)) K d_T_init_29 (by decide) ?_
  obtain ⟨w6, ew6, h⟩ := hp_bd h
  refine hv_pi K fp_T_24 d_T_init_30 ew6 ?_
  rw [← hp_pi_len ew6] at he
  refine av_aload_n K d_T_init_33 rfl rfl ?_
  refine av_bipush (v := (16 : Int32)) K d_T_init_34 (by decide) ?_
  obtain ⟨w7, ew7, h⟩ := hp_bd h
  refine hv_pi K fp_T_27 d_T_init_36 ew7 ?_
  rw [← hp_pi_len ew7] at he
  obtain rfl := Option.some.inj h
  exact av_return K hr d_T_init_39 ⟨rfl, by omega⟩
end
set_option maxRecDepth 100000 in
theorem c_T_init {l : Launch} {D : va_G} {ca : Nat → Nat} {fu : Nat} {v0 : Nat} {w r : List va_E} (h : f_T_init fu v0 w = some r) : av_Nv l D cl8 ca NS tabON y_T_init w_T_init rm_T_init 30 480 [.ref v0] w (fun u => u = r ∧ u.length = w.length + 30) :=
  av_inN (cc := b_T_init) (nL := 1) (by decide +kernel) rfl rfl (Nat.le_of_ble_eq_true rfl) (fun p e s m args below meth c A ad b K G O hin hr hs0 had => v_T_init K G O hin hr fu v0 w hs0 had hs0 h)

-- FaultTreeDesk.<init>()V
theorem d_F_init_0 : decode b_F_init 0 = .ok (.aload_n 0, 1) := by decide +kernel
theorem d_F_init_1 : decode b_F_init 1 = .ok (.invokespecial 3, 3) := by decide +kernel
theorem d_F_init_4 : decode b_F_init 4 = .ok (.aload_n 0, 1) := by decide +kernel
theorem d_F_init_5 : decode b_F_init 5 = .ok (.new 9, 3) := by decide +kernel
theorem d_F_init_8 : decode b_F_init 8 = .ok (.dup, 1) := by decide +kernel
theorem d_F_init_9 : decode b_F_init 9 = .ok (.invokespecial 11, 3) := by decide +kernel
theorem d_F_init_12 : decode b_F_init 12 = .ok (.putfield 12, 3) := by decide +kernel
theorem d_F_init_15 : decode b_F_init 15 = .ok (.aload_n 0, 1) := by decide +kernel
theorem d_F_init_16 : decode b_F_init 16 = .ok (.new 16, 3) := by decide +kernel
theorem d_F_init_19 : decode b_F_init 19 = .ok (.dup, 1) := by decide +kernel
theorem d_F_init_20 : decode b_F_init 20 = .ok (.invokespecial 18, 3) := by decide +kernel
theorem d_F_init_23 : decode b_F_init 23 = .ok (.putfield 19, 3) := by decide +kernel
theorem d_F_init_26 : decode b_F_init 26 = .ok (.aload_n 0, 1) := by decide +kernel
theorem d_F_init_27 : decode b_F_init 27 = .ok (.new 23, 3) := by decide +kernel
theorem d_F_init_30 : decode b_F_init 30 = .ok (.dup, 1) := by decide +kernel
theorem d_F_init_31 : decode b_F_init 31 = .ok (.invokespecial 25, 3) := by decide +kernel
theorem d_F_init_34 : decode b_F_init 34 = .ok (.putfield 26, 3) := by decide +kernel
theorem d_F_init_37 : decode b_F_init 37 = .ok (.aload_n 0, 1) := by decide +kernel
theorem d_F_init_38 : decode b_F_init 38 = .ok (.new 30, 3) := by decide +kernel
theorem d_F_init_41 : decode b_F_init 41 = .ok (.dup, 1) := by decide +kernel
theorem d_F_init_42 : decode b_F_init 42 = .ok (.invokespecial 32, 3) := by decide +kernel
theorem d_F_init_45 : decode b_F_init 45 = .ok (.putfield 33, 3) := by decide +kernel
theorem d_F_init_48 : decode b_F_init 48 = .ok (.aload_n 0, 1) := by decide +kernel
theorem d_F_init_49 : decode b_F_init 49 = .ok (.new 37, 3) := by decide +kernel
theorem d_F_init_52 : decode b_F_init 52 = .ok (.dup, 1) := by decide +kernel
theorem d_F_init_53 : decode b_F_init 53 = .ok (.invokespecial 39, 3) := by decide +kernel
theorem d_F_init_56 : decode b_F_init 56 = .ok (.putfield 40, 3) := by decide +kernel
theorem d_F_init_59 : decode b_F_init 59 = .ok (.aload_n 0, 1) := by decide +kernel
theorem d_F_init_60 : decode b_F_init 60 = .ok (.new 44, 3) := by decide +kernel
theorem d_F_init_63 : decode b_F_init 63 = .ok (.dup, 1) := by decide +kernel
theorem d_F_init_64 : decode b_F_init 64 = .ok (.invokespecial 46, 3) := by decide +kernel
theorem d_F_init_67 : decode b_F_init 67 = .ok (.putfield 47, 3) := by decide +kernel
theorem d_F_init_70 : decode b_F_init 70 = .ok (.aload_n 0, 1) := by decide +kernel
theorem d_F_init_71 : decode b_F_init 71 = .ok (.iconst (-1), 1) := by decide +kernel
theorem d_F_init_72 : decode b_F_init 72 = .ok (.putfield 51, 3) := by decide +kernel
theorem d_F_init_75 : decode b_F_init 75 = .ok (.aload_n 0, 1) := by decide +kernel
theorem d_F_init_76 : decode b_F_init 76 = .ok (.iconst 0, 1) := by decide +kernel
theorem d_F_init_77 : decode b_F_init 77 = .ok (.putfield 55, 3) := by decide +kernel
theorem d_F_init_80 : decode b_F_init 80 = .ok (.aload_n 0, 1) := by decide +kernel
theorem d_F_init_81 : decode b_F_init 81 = .ok (.iconst 0, 1) := by decide +kernel
theorem d_F_init_82 : decode b_F_init 82 = .ok (.putfield 59, 3) := by decide +kernel
theorem d_F_init_85 : decode b_F_init 85 = .ok (.return_, 1) := by decide +kernel
def rm_F_init : Room := { frames := 4, cells := 58, slots := 4129, locals := 80 }
def f_F_init (fu : Nat) (v0 : Nat) (w : List va_E) : Option (List va_E) := ((hp_nw w 1 [.null, .null, .int 0]).bind fun w1 => ((f_E_init fu w.length w1).bind fun w2 => ((hp_pr w2 v0 6 0 w.length).bind fun w3 => ((hp_nw w3 2 [.null, .null, .null, .null, .int 0]).bind fun w4 => ((f_G_init fu w3.length w4).bind fun w5 => ((hp_pr w5 v0 6 1 w3.length).bind fun w6 => ((hp_nw w6 5 [.null, .null, .int 0, .int 0, .int 0]).bind fun w7 => ((f_T_init fu w6.length w7).bind fun w8 => ((hp_pr w8 v0 6 2 w6.length).bind fun w9 => ((hp_nw w9 3 [.null]).bind fun w10 => ((f_O_init fu w9.length w10).bind fun w11 => ((hp_pr w11 v0 6 3 w9.length).bind fun w12 => ((hp_nw w12 0 [.null, .null, .int 0]).bind fun w13 => ((f_D_init fu w12.length w13).bind fun w14 => ((hp_pr w14 v0 6 4 w12.length).bind fun w15 => ((hp_nw w15 4 [.null, .null, .int 0, .int 0, .int 0]).bind fun w16 => ((f_X_init fu w15.length w16).bind fun w17 => ((hp_pr w17 v0 6 5 w15.length).bind fun w18 => ((hp_pi w18 v0 6 6 (-1 : Int32)).bind fun w19 => ((hp_pz w19 v0 6 7 (0 : Int32)).bind fun w20 => ((hp_pz w20 v0 6 8 (0 : Int32)).bind fun w21 => (some w21))))))))))))))))))))))
section
variable {p : Program} {l : Launch} {e : Env} {s : State} {m : MethodId} {args : Array Value} {below : List Frame} {meth : Method} {c : Code} {D : va_G} {ca : Nat → Nat} {A : Nat → Prop} {ad : Nat → Nat}
set_option maxRecDepth 100000 in
set_option maxHeartbeats 4000000 in
theorem v_F_init (K : av_K p s m args meth c D cl8 ca A b_F_init 1 R_F WS) (G : av_G NS tabON A s s.heap) (O : va_AOA .long s) (hin : meth.name = "<init>") (hr : meth.sig.returnType = none) (fu : Nat) {r : List va_E} {b : Nat} (v0 : Nat) (w : List va_E) (hs0 : s.heap.size = b + w.length) (had : ∀ k, w.length ≤ k → ad k = b + k) (he : s.heap.size + 0 = b + w.length) (h : f_F_init fu v0 w = some r) : av_V p l e rm_F_init s m args below meth c D cl8 A ad ca 1 (MQ below (va_Qv (fun u => u = r ∧ u.length = w.length + 58) (av_B D cl8 ad ca A) A) args s 58 4129 A) 0 0 0 [some (.ref v0)] [] w := by
  unfold f_F_init at h
  refine av_aload_n K d_F_init_0 rfl rfl ?_
  refine av_oi K ol_F oi_m oi_c (Nat.le_of_ble_eq_true rfl) (Nat.le_of_ble_eq_true rfl) d_F_init_1 ?_
  refine av_aload_n K d_F_init_4 rfl rfl ?_
  obtain ⟨w1, ew1, h⟩ := hp_bd h
  refine av_nw (fs := [.null, .null, .int 0]) K hs0 he had la_E tq_E t_E_ok nk_F_9 ni_E in_E rfl (fun j hj => nf_E j hj) (Nat.le_of_ble_eq_true rfl) (Nat.le_of_ble_eq_true rfl) d_F_init_5 (Option.some.inj ew1) ?_
  have he : s.heap.size + 1 = b + w1.length := by rw [← Option.some.inj ew1, List.length_append]; simp only [List.length_cons, List.length_nil]; omega
  refine av_dup K d_F_init_8 rfl ?_
  obtain ⟨w2, ew2, h⟩ := hp_bd h
  refine av_cN K G O hs0 he had (c_E_init ew2) ⟨va_cnB (host := "FaultTreeDesk") 0 K.2.2.2.2.1 (gN co_E_init) rfl rfl rfl (G.2.1 _ (List.mem_of_getElem? (i := 0) rfl)) (K.2.2.2.2.1 _ in_E) (by decide +kernel) ⟨(Nat.le_of_ble_eq_true rfl), (Nat.le_of_ble_eq_true rfl)⟩, rfl, K.2.2.2.2.1 _ im_E_init⟩ rfl rfl (Nat.le_of_ble_eq_true rfl) d_F_init_9 ⟨(Nat.le_of_ble_eq_true rfl), (Nat.le_of_ble_eq_true rfl)⟩ (fun u9 h9 => ?_)
  obtain ⟨rfl, h8⟩ := h9
  have he : s.heap.size + 3 = b + u9.length := by rw [h8]; omega
  obtain ⟨w3, ew3, h⟩ := hp_bd h
  refine av_pr (kf := 0) K hin la_F tq_F t_F_ok n_F rfl (Nat.le_of_ble_eq_true rfl) fk_F_12 rfl rfl (t_F_ok 0 (Nat.le_of_ble_eq_true rfl)) (fun _ => rfl) (fun _ => rfl) d_F_init_12 ew3 ?_
  rw [← hp_pr_len ew3] at he
  refine av_aload_n K d_F_init_15 rfl rfl ?_
  obtain ⟨w4, ew4, h⟩ := hp_bd h
  refine av_nw (fs := [.null, .null, .null, .null, .int 0]) K hs0 he had la_G tq_G t_G_ok nk_F_16 ni_G in_G rfl (fun j hj => nf_G j hj) (Nat.le_of_ble_eq_true rfl) (Nat.le_of_ble_eq_true rfl) d_F_init_16 (Option.some.inj ew4) ?_
  have he : s.heap.size + 4 = b + w4.length := by rw [← Option.some.inj ew4, List.length_append]; simp only [List.length_cons, List.length_nil]; omega
  refine av_dup K d_F_init_19 rfl ?_
  obtain ⟨w5, ew5, h⟩ := hp_bd h
  refine av_cN K G O hs0 he had (c_G_init ew5) ⟨va_cnB (host := "FaultTreeDesk") 0 K.2.2.2.2.1 (gN co_G_init) rfl rfl rfl (G.2.1 _ (List.mem_of_getElem? (i := 8) rfl)) (K.2.2.2.2.1 _ in_G) (by decide +kernel) ⟨(Nat.le_of_ble_eq_true rfl), (Nat.le_of_ble_eq_true rfl)⟩, rfl, K.2.2.2.2.1 _ im_G_init⟩ rfl rfl (Nat.le_of_ble_eq_true rfl) d_F_init_20 ⟨(Nat.le_of_ble_eq_true rfl), (Nat.le_of_ble_eq_true rfl)⟩ (fun u9 h9 => ?_)
  obtain ⟨rfl, h8⟩ := h9
  have he : s.heap.size + 8 = b + u9.length := by rw [h8]; omega
  obtain ⟨w6, ew6, h⟩ := hp_bd h
  refine av_pr (kf := 1) K hin la_F tq_F t_F_ok n_F rfl (Nat.le_of_ble_eq_true rfl) fk_F_19 rfl rfl (t_F_ok 1 (Nat.le_of_ble_eq_true rfl)) (fun _ => rfl) (fun _ => rfl) d_F_init_23 ew6 ?_
  rw [← hp_pr_len ew6] at he
  refine av_aload_n K d_F_init_26 rfl rfl ?_
  obtain ⟨w7, ew7, h⟩ := hp_bd h
  refine av_nw (fs := [.null, .null, .int 0, .int 0, .int 0]) K hs0 he had la_T tq_T t_T_ok nk_F_23 ni_T in_T rfl (fun j hj => nf_T j hj) (Nat.le_of_ble_eq_true rfl) (Nat.le_of_ble_eq_true rfl) d_F_init_27 (Option.some.inj ew7) ?_
  have he : s.heap.size + 9 = b + w7.length := by rw [← Option.some.inj ew7, List.length_append]; simp only [List.length_cons, List.length_nil]; omega
  refine av_dup K d_F_init_30 rfl ?_
  obtain ⟨w8, ew8, h⟩ := hp_bd h
  refine av_cN K G O hs0 he had (c_T_init ew8) ⟨va_cnB (host := "FaultTreeDesk") 0 K.2.2.2.2.1 (gN co_T_init) rfl rfl rfl (G.2.1 _ (List.mem_of_getElem? (i := 15) rfl)) (K.2.2.2.2.1 _ in_T) (by decide +kernel) ⟨(Nat.le_of_ble_eq_true rfl), (Nat.le_of_ble_eq_true rfl)⟩, rfl, K.2.2.2.2.1 _ im_T_init⟩ rfl rfl (Nat.le_of_ble_eq_true rfl) d_F_init_31 ⟨(Nat.le_of_ble_eq_true rfl), (Nat.le_of_ble_eq_true rfl)⟩ (fun u9 h9 => ?_)
  obtain ⟨rfl, h8⟩ := h9
  have he : s.heap.size + 39 = b + u9.length := by rw [h8]; omega
  obtain ⟨w9, ew9, h⟩ := hp_bd h
  refine av_pr (kf := 2) K hin la_F tq_F t_F_ok n_F rfl (Nat.le_of_ble_eq_true rfl) fk_F_26 rfl rfl (t_F_ok 2 (Nat.le_of_ble_eq_true rfl)) (fun _ => rfl) (fun _ => rfl) d_F_init_34 ew9 ?_
  rw [← hp_pr_len ew9] at he
  refine av_aload_n K d_F_init_37 rfl rfl ?_
  obtain ⟨w10, ew10, h⟩ := hp_bd h
  refine av_nw (fs := [.null]) K hs0 he had la_O tq_O t_O_ok nk_F_30 ni_O in_O rfl (fun j hj => nf_O j hj) (Nat.le_of_ble_eq_true rfl) (Nat.le_of_ble_eq_true rfl) d_F_init_38 (Option.some.inj ew10) ?_
  have he : s.heap.size + 40 = b + w10.length := by rw [← Option.some.inj ew10, List.length_append]; simp only [List.length_cons, List.length_nil]; omega
  refine av_dup K d_F_init_41 rfl ?_
  obtain ⟨w11, ew11, h⟩ := hp_bd h
  refine av_cN K G O hs0 he had (c_O_init ew11) ⟨va_cnB (host := "FaultTreeDesk") 0 K.2.2.2.2.1 (gN co_O_init) rfl rfl rfl (G.2.1 _ (List.mem_of_getElem? (i := 19) rfl)) (K.2.2.2.2.1 _ in_O) (by decide +kernel) ⟨(Nat.le_of_ble_eq_true rfl), (Nat.le_of_ble_eq_true rfl)⟩, rfl, K.2.2.2.2.1 _ im_O_init⟩ rfl rfl (Nat.le_of_ble_eq_true rfl) d_F_init_42 ⟨(Nat.le_of_ble_eq_true rfl), (Nat.le_of_ble_eq_true rfl)⟩ (fun u9 h9 => ?_)
  obtain ⟨rfl, h8⟩ := h9
  have he : s.heap.size + 41 = b + u9.length := by rw [h8]; omega
  obtain ⟨w12, ew12, h⟩ := hp_bd h
  refine av_pr (kf := 3) K hin la_F tq_F t_F_ok n_F rfl (Nat.le_of_ble_eq_true rfl) fk_F_33 rfl rfl (t_F_ok 3 (Nat.le_of_ble_eq_true rfl)) (fun _ => rfl) (fun _ => rfl) d_F_init_45 ew12 ?_
  rw [← hp_pr_len ew12] at he
  refine av_aload_n K d_F_init_48 rfl rfl ?_
  obtain ⟨w13, ew13, h⟩ := hp_bd h
  refine av_nw (fs := [.null, .null, .int 0]) K hs0 he had la_D tq_D t_D_ok nk_F_37 ni_D in_D rfl (fun j hj => nf_D j hj) (Nat.le_of_ble_eq_true rfl) (Nat.le_of_ble_eq_true rfl) d_F_init_49 (Option.some.inj ew13) ?_
  have he : s.heap.size + 42 = b + w13.length := by rw [← Option.some.inj ew13, List.length_append]; simp only [List.length_cons, List.length_nil]; omega
  refine av_dup K d_F_init_52 rfl ?_
  obtain ⟨w14, ew14, h⟩ := hp_bd h
  refine av_cN K G O hs0 he had (c_D_init ew14) ⟨va_cnB (host := "FaultTreeDesk") 0 K.2.2.2.2.1 (gN co_D_init) rfl rfl rfl (G.2.1 _ (List.mem_of_getElem? (i := 20) rfl)) (K.2.2.2.2.1 _ in_D) (by decide +kernel) ⟨(Nat.le_of_ble_eq_true rfl), (Nat.le_of_ble_eq_true rfl)⟩, rfl, K.2.2.2.2.1 _ im_D_init⟩ rfl rfl (Nat.le_of_ble_eq_true rfl) d_F_init_53 ⟨(Nat.le_of_ble_eq_true rfl), (Nat.le_of_ble_eq_true rfl)⟩ (fun u9 h9 => ?_)
  obtain ⟨rfl, h8⟩ := h9
  have he : s.heap.size + 44 = b + u9.length := by rw [h8]; omega
  obtain ⟨w15, ew15, h⟩ := hp_bd h
  refine av_pr (kf := 4) K hin la_F tq_F t_F_ok n_F rfl (Nat.le_of_ble_eq_true rfl) fk_F_40 rfl rfl (t_F_ok 4 (Nat.le_of_ble_eq_true rfl)) (fun _ => rfl) (fun _ => rfl) d_F_init_56 ew15 ?_
  rw [← hp_pr_len ew15] at he
  refine av_aload_n K d_F_init_59 rfl rfl ?_
  obtain ⟨w16, ew16, h⟩ := hp_bd h
  refine av_nw (fs := [.null, .null, .int 0, .int 0, .int 0]) K hs0 he had la_X tq_X t_X_ok nk_F_44 ni_X in_X rfl (fun j hj => nf_X j hj) (Nat.le_of_ble_eq_true rfl) (Nat.le_of_ble_eq_true rfl) d_F_init_60 (Option.some.inj ew16) ?_
  have he : s.heap.size + 45 = b + w16.length := by rw [← Option.some.inj ew16, List.length_append]; simp only [List.length_cons, List.length_nil]; omega
  refine av_dup K d_F_init_63 rfl ?_
  obtain ⟨w17, ew17, h⟩ := hp_bd h
  refine av_cN K G O hs0 he had (c_X_init ew17) ⟨va_cnB (host := "FaultTreeDesk") 0 K.2.2.2.2.1 (gN co_X_init) rfl rfl rfl (G.2.1 _ (List.mem_of_getElem? (i := 21) rfl)) (K.2.2.2.2.1 _ in_X) (by decide +kernel) ⟨(Nat.le_of_ble_eq_true rfl), (Nat.le_of_ble_eq_true rfl)⟩, rfl, K.2.2.2.2.1 _ im_X_init⟩ rfl rfl (Nat.le_of_ble_eq_true rfl) d_F_init_64 ⟨(Nat.le_of_ble_eq_true rfl), (Nat.le_of_ble_eq_true rfl)⟩ (fun u9 h9 => ?_)
  obtain ⟨rfl, h8⟩ := h9
  have he : s.heap.size + 58 = b + u9.length := by rw [h8]; omega
  obtain ⟨w18, ew18, h⟩ := hp_bd h
  refine av_pr (kf := 5) K hin la_F tq_F t_F_ok n_F rfl (Nat.le_of_ble_eq_true rfl) fk_F_47 rfl rfl (t_F_ok 5 (Nat.le_of_ble_eq_true rfl)) (fun _ => rfl) (fun _ => rfl) d_F_init_67 ew18 ?_
  rw [← hp_pr_len ew18] at he
  refine av_aload_n K d_F_init_70 rfl rfl ?_
  refine av_iconst (v := (-1 : Int32)) K d_F_init_71 (by decide) ?_
  obtain ⟨w19, ew19, h⟩ := hp_bd h
  refine hv_pi K fp_F_51 d_F_init_72 ew19 ?_
  rw [← hp_pi_len ew19] at he
  refine av_aload_n K d_F_init_75 rfl rfl ?_
  refine av_iconst (v := (0 : Int32)) K d_F_init_76 (by decide) ?_
  obtain ⟨w20, ew20, h⟩ := hp_bd h
  refine hv_pz K fp_F_55 d_F_init_77 ew20 ?_
  rw [← hp_pz_len ew20] at he
  refine av_aload_n K d_F_init_80 rfl rfl ?_
  refine av_iconst (v := (0 : Int32)) K d_F_init_81 (by decide) ?_
  obtain ⟨w21, ew21, h⟩ := hp_bd h
  refine hv_pz K fp_F_59 d_F_init_82 ew21 ?_
  rw [← hp_pz_len ew21] at he
  obtain rfl := Option.some.inj h
  exact av_return K hr d_F_init_85 ⟨rfl, by omega⟩
end
set_option maxRecDepth 100000 in
theorem c_F_init {l : Launch} {D : va_G} {ca : Nat → Nat} {fu : Nat} {v0 : Nat} {w r : List va_E} (h : f_F_init fu v0 w = some r) : av_Nv l D cl8 ca NS tabON y_F_init w_F_init rm_F_init 58 4129 [.ref v0] w (fun u => u = r ∧ u.length = w.length + 58) :=
  av_inN (cc := b_F_init) (nL := 1) (by decide +kernel) rfl rfl (Nat.le_of_ble_eq_true rfl) (fun p e s m args below meth c A ad b K G O hin hr hs0 had => v_F_init K G O hin hr fu v0 w hs0 had hs0 h)

-- FaultTreeDeskModel.<init>()V
theorem d_M_init_0 : decode b_M_init 0 = .ok (.aload_n 0, 1) := by decide +kernel
theorem d_M_init_1 : decode b_M_init 1 = .ok (.invokespecial 1, 3) := by decide +kernel
theorem d_M_init_4 : decode b_M_init 4 = .ok (.aload_n 0, 1) := by decide +kernel
theorem d_M_init_5 : decode b_M_init 5 = .ok (.bipush 10, 2) := by decide +kernel
theorem d_M_init_7 : decode b_M_init 7 = .ok (.newarray .int, 2) := by decide +kernel
theorem d_M_init_9 : decode b_M_init 9 = .ok (.putfield 7, 3) := by decide +kernel
theorem d_M_init_12 : decode b_M_init 12 = .ok (.aload_n 0, 1) := by decide +kernel
theorem d_M_init_13 : decode b_M_init 13 = .ok (.bipush 10, 2) := by decide +kernel
theorem d_M_init_15 : decode b_M_init 15 = .ok (.newarray .int, 2) := by decide +kernel
theorem d_M_init_17 : decode b_M_init 17 = .ok (.putfield 13, 3) := by decide +kernel
theorem d_M_init_20 : decode b_M_init 20 = .ok (.aload_n 0, 1) := by decide +kernel
theorem d_M_init_21 : decode b_M_init 21 = .ok (.bipush 12, 2) := by decide +kernel
theorem d_M_init_23 : decode b_M_init 23 = .ok (.newarray .int, 2) := by decide +kernel
theorem d_M_init_25 : decode b_M_init 25 = .ok (.putfield 16, 3) := by decide +kernel
theorem d_M_init_28 : decode b_M_init 28 = .ok (.aload_n 0, 1) := by decide +kernel
theorem d_M_init_29 : decode b_M_init 29 = .ok (.bipush 12, 2) := by decide +kernel
theorem d_M_init_31 : decode b_M_init 31 = .ok (.newarray .int, 2) := by decide +kernel
theorem d_M_init_33 : decode b_M_init 33 = .ok (.putfield 19, 3) := by decide +kernel
theorem d_M_init_36 : decode b_M_init 36 = .ok (.aload_n 0, 1) := by decide +kernel
theorem d_M_init_37 : decode b_M_init 37 = .ok (.bipush 12, 2) := by decide +kernel
theorem d_M_init_39 : decode b_M_init 39 = .ok (.newarray .int, 2) := by decide +kernel
theorem d_M_init_41 : decode b_M_init 41 = .ok (.putfield 22, 3) := by decide +kernel
theorem d_M_init_44 : decode b_M_init 44 = .ok (.aload_n 0, 1) := by decide +kernel
theorem d_M_init_45 : decode b_M_init 45 = .ok (.bipush 48, 2) := by decide +kernel
theorem d_M_init_47 : decode b_M_init 47 = .ok (.newarray .int, 2) := by decide +kernel
theorem d_M_init_49 : decode b_M_init 49 = .ok (.putfield 25, 3) := by decide +kernel
theorem d_M_init_52 : decode b_M_init 52 = .ok (.aload_n 0, 1) := by decide +kernel
theorem d_M_init_53 : decode b_M_init 53 = .ok (.iconst (-1), 1) := by decide +kernel
theorem d_M_init_54 : decode b_M_init 54 = .ok (.putfield 28, 3) := by decide +kernel
theorem d_M_init_57 : decode b_M_init 57 = .ok (.aload_n 0, 1) := by decide +kernel
theorem d_M_init_58 : decode b_M_init 58 = .ok (.sipush 144, 3) := by decide +kernel
theorem d_M_init_61 : decode b_M_init 61 = .ok (.newarray .boolean, 2) := by decide +kernel
theorem d_M_init_63 : decode b_M_init 63 = .ok (.putfield 32, 3) := by decide +kernel
theorem d_M_init_66 : decode b_M_init 66 = .ok (.aload_n 0, 1) := by decide +kernel
theorem d_M_init_67 : decode b_M_init 67 = .ok (.bipush 12, 2) := by decide +kernel
theorem d_M_init_69 : decode b_M_init 69 = .ok (.newarray .boolean, 2) := by decide +kernel
theorem d_M_init_71 : decode b_M_init 71 = .ok (.putfield 36, 3) := by decide +kernel
theorem d_M_init_74 : decode b_M_init 74 = .ok (.aload_n 0, 1) := by decide +kernel
theorem d_M_init_75 : decode b_M_init 75 = .ok (.bipush 12, 2) := by decide +kernel
theorem d_M_init_77 : decode b_M_init 77 = .ok (.newarray .int, 2) := by decide +kernel
theorem d_M_init_79 : decode b_M_init 79 = .ok (.putfield 39, 3) := by decide +kernel
theorem d_M_init_82 : decode b_M_init 82 = .ok (.aload_n 0, 1) := by decide +kernel
theorem d_M_init_83 : decode b_M_init 83 = .ok (.bipush 12, 2) := by decide +kernel
theorem d_M_init_85 : decode b_M_init 85 = .ok (.newarray .boolean, 2) := by decide +kernel
theorem d_M_init_87 : decode b_M_init 87 = .ok (.putfield 42, 3) := by decide +kernel
theorem d_M_init_90 : decode b_M_init 90 = .ok (.aload_n 0, 1) := by decide +kernel
theorem d_M_init_91 : decode b_M_init 91 = .ok (.sipush 1024, 3) := by decide +kernel
theorem d_M_init_94 : decode b_M_init 94 = .ok (.newarray .boolean, 2) := by decide +kernel
theorem d_M_init_96 : decode b_M_init 96 = .ok (.putfield 45, 3) := by decide +kernel
theorem d_M_init_99 : decode b_M_init 99 = .ok (.aload_n 0, 1) := by decide +kernel
theorem d_M_init_100 : decode b_M_init 100 = .ok (.sipush 923, 3) := by decide +kernel
theorem d_M_init_103 : decode b_M_init 103 = .ok (.newarray .long, 2) := by decide +kernel
theorem d_M_init_105 : decode b_M_init 105 = .ok (.putfield 48, 3) := by decide +kernel
theorem d_M_init_108 : decode b_M_init 108 = .ok (.aload_n 0, 1) := by decide +kernel
theorem d_M_init_109 : decode b_M_init 109 = .ok (.sipush 301, 3) := by decide +kernel
theorem d_M_init_112 : decode b_M_init 112 = .ok (.newarray .int, 2) := by decide +kernel
theorem d_M_init_114 : decode b_M_init 114 = .ok (.putfield 52, 3) := by decide +kernel
theorem d_M_init_117 : decode b_M_init 117 = .ok (.aload_n 0, 1) := by decide +kernel
theorem d_M_init_118 : decode b_M_init 118 = .ok (.sipush 301, 3) := by decide +kernel
theorem d_M_init_121 : decode b_M_init 121 = .ok (.newarray .int, 2) := by decide +kernel
theorem d_M_init_123 : decode b_M_init 123 = .ok (.putfield 55, 3) := by decide +kernel
theorem d_M_init_126 : decode b_M_init 126 = .ok (.return_, 1) := by decide +kernel
def rm_M_init : Room := { frames := 2, cells := 14, slots := 2833, locals := 60 }
def f_M_init (fu : Nat) (v0 : Nat) (w : List va_E) : Option (List va_E) := ((hp_na w 0 10).bind fun w1 => ((hp_pr w1 v0 7 2 w.length).bind fun w2 => ((hp_na w2 0 10).bind fun w3 => ((hp_pr w3 v0 7 3 w2.length).bind fun w4 => ((hp_na w4 0 12).bind fun w5 => ((hp_pr w5 v0 7 5 w4.length).bind fun w6 => ((hp_na w6 0 12).bind fun w7 => ((hp_pr w7 v0 7 6 w6.length).bind fun w8 => ((hp_na w8 0 12).bind fun w9 => ((hp_pr w9 v0 7 7 w8.length).bind fun w10 => ((hp_na w10 0 48).bind fun w11 => ((hp_pr w11 v0 7 8 w10.length).bind fun w12 => ((hp_pi w12 v0 7 9 (-1 : Int32)).bind fun w13 => ((hp_na w13 2 144).bind fun w14 => ((hp_pr w14 v0 7 10 w13.length).bind fun w15 => ((hp_na w15 2 12).bind fun w16 => ((hp_pr w16 v0 7 11 w15.length).bind fun w17 => ((hp_na w17 0 12).bind fun w18 => ((hp_pr w18 v0 7 12 w17.length).bind fun w19 => ((hp_na w19 2 12).bind fun w20 => ((hp_pr w20 v0 7 13 w19.length).bind fun w21 => ((hp_na w21 2 1024).bind fun w22 => ((hp_pr w22 v0 7 14 w21.length).bind fun w23 => ((hp_na w23 1 923).bind fun w24 => ((hp_pr w24 v0 7 15 w23.length).bind fun w25 => ((hp_na w25 0 301).bind fun w26 => ((hp_pr w26 v0 7 17 w25.length).bind fun w27 => ((hp_na w27 0 301).bind fun w28 => ((hp_pr w28 v0 7 18 w27.length).bind fun w29 => (some w29))))))))))))))))))))))))))))))
section
variable {p : Program} {l : Launch} {e : Env} {s : State} {m : MethodId} {args : Array Value} {below : List Frame} {meth : Method} {c : Code} {D : va_G} {ca : Nat → Nat} {A : Nat → Prop} {ad : Nat → Nat}
set_option maxRecDepth 100000 in
set_option maxHeartbeats 4000000 in
theorem v_M_init (K : av_K p s m args meth c D cl8 ca A b_M_init 1 R_M WS) (G : av_G NS tabON A s s.heap) (O : va_AOA .long s) (hin : meth.name = "<init>") (hr : meth.sig.returnType = none) (fu : Nat) {r : List va_E} {b : Nat} (v0 : Nat) (w : List va_E) (hs0 : s.heap.size = b + w.length) (had : ∀ k, w.length ≤ k → ad k = b + k) (he : s.heap.size + 0 = b + w.length) (h : f_M_init fu v0 w = some r) : av_V p l e rm_M_init s m args below meth c D cl8 A ad ca 1 (MQ below (va_Qv (fun u => u = r ∧ u.length = w.length + 14) (av_B D cl8 ad ca A) A) args s 14 2833 A) 0 0 0 [some (.ref v0)] [] w := by
  unfold f_M_init at h
  refine av_aload_n K d_M_init_0 rfl rfl ?_
  refine av_oi K ol_M oi_m oi_c (Nat.le_of_ble_eq_true rfl) (Nat.le_of_ble_eq_true rfl) d_M_init_1 ?_
  refine av_aload_n K d_M_init_4 rfl rfl ?_
  refine av_bipush (v := (10 : Int32)) K d_M_init_5 (by decide) ?_
  obtain ⟨w1, ew1, h⟩ := hp_bd h
  refine av_na (k := 0) (N := 10) (z := (10, .inl (fun _ => 0))) K hs0 he had ac_int rfl rfl (fun h => h) (fun _ => rfl) ⟨by decide, by decide⟩ (Nat.le_of_ble_eq_true rfl) (Nat.le_of_ble_eq_true rfl) (Nat.le_of_ble_eq_true rfl) d_M_init_7 (Option.some.inj ew1) ?_
  have he : s.heap.size + 1 = b + w1.length := by rw [← Option.some.inj ew1, List.length_append]; simp only [List.length_cons, List.length_nil]; omega
  obtain ⟨w2, ew2, h⟩ := hp_bd h
  refine av_pr (kf := 2) K hin la_M tq_M t_M_ok n_M rfl (Nat.le_of_ble_eq_true rfl) fk_M_7 rfl rfl (t_M_ok 2 (Nat.le_of_ble_eq_true rfl)) (fun _ => rfl) (fun _ => rfl) d_M_init_9 ew2 ?_
  rw [← hp_pr_len ew2] at he
  refine av_aload_n K d_M_init_12 rfl rfl ?_
  refine av_bipush (v := (10 : Int32)) K d_M_init_13 (by decide) ?_
  obtain ⟨w3, ew3, h⟩ := hp_bd h
  refine av_na (k := 0) (N := 10) (z := (10, .inl (fun _ => 0))) K hs0 he had ac_int rfl rfl (fun h => h) (fun _ => rfl) ⟨by decide, by decide⟩ (Nat.le_of_ble_eq_true rfl) (Nat.le_of_ble_eq_true rfl) (Nat.le_of_ble_eq_true rfl) d_M_init_15 (Option.some.inj ew3) ?_
  have he : s.heap.size + 2 = b + w3.length := by rw [← Option.some.inj ew3, List.length_append]; simp only [List.length_cons, List.length_nil]; omega
  obtain ⟨w4, ew4, h⟩ := hp_bd h
  refine av_pr (kf := 3) K hin la_M tq_M t_M_ok n_M rfl (Nat.le_of_ble_eq_true rfl) fk_M_13 rfl rfl (t_M_ok 3 (Nat.le_of_ble_eq_true rfl)) (fun _ => rfl) (fun _ => rfl) d_M_init_17 ew4 ?_
  rw [← hp_pr_len ew4] at he
  refine av_aload_n K d_M_init_20 rfl rfl ?_
  refine av_bipush (v := (12 : Int32)) K d_M_init_21 (by decide) ?_
  obtain ⟨w5, ew5, h⟩ := hp_bd h
  refine av_na (k := 0) (N := 12) (z := (12, .inl (fun _ => 0))) K hs0 he had ac_int rfl rfl (fun h => h) (fun _ => rfl) ⟨by decide, by decide⟩ (Nat.le_of_ble_eq_true rfl) (Nat.le_of_ble_eq_true rfl) (Nat.le_of_ble_eq_true rfl) d_M_init_23 (Option.some.inj ew5) ?_
  have he : s.heap.size + 3 = b + w5.length := by rw [← Option.some.inj ew5, List.length_append]; simp only [List.length_cons, List.length_nil]; omega
  obtain ⟨w6, ew6, h⟩ := hp_bd h
  refine av_pr (kf := 5) K hin la_M tq_M t_M_ok n_M rfl (Nat.le_of_ble_eq_true rfl) fk_M_16 rfl rfl (t_M_ok 5 (Nat.le_of_ble_eq_true rfl)) (fun _ => rfl) (fun _ => rfl) d_M_init_25 ew6 ?_
  rw [← hp_pr_len ew6] at he
  refine av_aload_n K d_M_init_28 rfl rfl ?_
  refine av_bipush (v := (12 : Int32)) K d_M_init_29 (by decide) ?_
  obtain ⟨w7, ew7, h⟩ := hp_bd h
  refine av_na (k := 0) (N := 12) (z := (12, .inl (fun _ => 0))) K hs0 he had ac_int rfl rfl (fun h => h) (fun _ => rfl) ⟨by decide, by decide⟩ (Nat.le_of_ble_eq_true rfl) (Nat.le_of_ble_eq_true rfl) (Nat.le_of_ble_eq_true rfl) d_M_init_31 (Option.some.inj ew7) ?_
  have he : s.heap.size + 4 = b + w7.length := by rw [← Option.some.inj ew7, List.length_append]; simp only [List.length_cons, List.length_nil]; omega
  obtain ⟨w8, ew8, h⟩ := hp_bd h
  refine av_pr (kf := 6) K hin la_M tq_M t_M_ok n_M rfl (Nat.le_of_ble_eq_true rfl) fk_M_19 rfl rfl (t_M_ok 6 (Nat.le_of_ble_eq_true rfl)) (fun _ => rfl) (fun _ => rfl) d_M_init_33 ew8 ?_
  rw [← hp_pr_len ew8] at he
  refine av_aload_n K d_M_init_36 rfl rfl ?_
  refine av_bipush (v := (12 : Int32)) K d_M_init_37 (by decide) ?_
  obtain ⟨w9, ew9, h⟩ := hp_bd h
  refine av_na (k := 0) (N := 12) (z := (12, .inl (fun _ => 0))) K hs0 he had ac_int rfl rfl (fun h => h) (fun _ => rfl) ⟨by decide, by decide⟩ (Nat.le_of_ble_eq_true rfl) (Nat.le_of_ble_eq_true rfl) (Nat.le_of_ble_eq_true rfl) d_M_init_39 (Option.some.inj ew9) ?_
  have he : s.heap.size + 5 = b + w9.length := by rw [← Option.some.inj ew9, List.length_append]; simp only [List.length_cons, List.length_nil]; omega
  obtain ⟨w10, ew10, h⟩ := hp_bd h
  refine av_pr (kf := 7) K hin la_M tq_M t_M_ok n_M rfl (Nat.le_of_ble_eq_true rfl) fk_M_22 rfl rfl (t_M_ok 7 (Nat.le_of_ble_eq_true rfl)) (fun _ => rfl) (fun _ => rfl) d_M_init_41 ew10 ?_
  rw [← hp_pr_len ew10] at he
  refine av_aload_n K d_M_init_44 rfl rfl ?_
  refine av_bipush (v := (48 : Int32)) K d_M_init_45 (by decide) ?_
  obtain ⟨w11, ew11, h⟩ := hp_bd h
  refine av_na (k := 0) (N := 48) (z := (48, .inl (fun _ => 0))) K hs0 he had ac_int rfl rfl (fun h => h) (fun _ => rfl) ⟨by decide, by decide⟩ (Nat.le_of_ble_eq_true rfl) (Nat.le_of_ble_eq_true rfl) (Nat.le_of_ble_eq_true rfl) d_M_init_47 (Option.some.inj ew11) ?_
  have he : s.heap.size + 6 = b + w11.length := by rw [← Option.some.inj ew11, List.length_append]; simp only [List.length_cons, List.length_nil]; omega
  obtain ⟨w12, ew12, h⟩ := hp_bd h
  refine av_pr (kf := 8) K hin la_M tq_M t_M_ok n_M rfl (Nat.le_of_ble_eq_true rfl) fk_M_25 rfl rfl (t_M_ok 8 (Nat.le_of_ble_eq_true rfl)) (fun _ => rfl) (fun _ => rfl) d_M_init_49 ew12 ?_
  rw [← hp_pr_len ew12] at he
  refine av_aload_n K d_M_init_52 rfl rfl ?_
  refine av_iconst (v := (-1 : Int32)) K d_M_init_53 (by decide) ?_
  obtain ⟨w13, ew13, h⟩ := hp_bd h
  refine hv_pi K fp_M_28 d_M_init_54 ew13 ?_
  rw [← hp_pi_len ew13] at he
  refine av_aload_n K d_M_init_57 rfl rfl ?_
  refine av_sipush (v := (144 : Int32)) K d_M_init_58 (by decide) ?_
  obtain ⟨w14, ew14, h⟩ := hp_bd h
  refine av_na (k := 2) (N := 144) (z := (144, .inl (fun _ => 0))) K hs0 he had ac_boolean rfl rfl (fun h => h) (fun _ => rfl) ⟨by decide, by decide⟩ (Nat.le_of_ble_eq_true rfl) (Nat.le_of_ble_eq_true rfl) (Nat.le_of_ble_eq_true rfl) d_M_init_61 (Option.some.inj ew14) ?_
  have he : s.heap.size + 7 = b + w14.length := by rw [← Option.some.inj ew14, List.length_append]; simp only [List.length_cons, List.length_nil]; omega
  obtain ⟨w15, ew15, h⟩ := hp_bd h
  refine av_pr (kf := 10) K hin la_M tq_M t_M_ok n_M rfl (Nat.le_of_ble_eq_true rfl) fk_M_32 rfl rfl (t_M_ok 10 (Nat.le_of_ble_eq_true rfl)) (fun _ => rfl) (fun _ => rfl) d_M_init_63 ew15 ?_
  rw [← hp_pr_len ew15] at he
  refine av_aload_n K d_M_init_66 rfl rfl ?_
  refine av_bipush (v := (12 : Int32)) K d_M_init_67 (by decide) ?_
  obtain ⟨w16, ew16, h⟩ := hp_bd h
  refine av_na (k := 2) (N := 12) (z := (12, .inl (fun _ => 0))) K hs0 he had ac_boolean rfl rfl (fun h => h) (fun _ => rfl) ⟨by decide, by decide⟩ (Nat.le_of_ble_eq_true rfl) (Nat.le_of_ble_eq_true rfl) (Nat.le_of_ble_eq_true rfl) d_M_init_69 (Option.some.inj ew16) ?_
  have he : s.heap.size + 8 = b + w16.length := by rw [← Option.some.inj ew16, List.length_append]; simp only [List.length_cons, List.length_nil]; omega
  obtain ⟨w17, ew17, h⟩ := hp_bd h
  refine av_pr (kf := 11) K hin la_M tq_M t_M_ok n_M rfl (Nat.le_of_ble_eq_true rfl) fk_M_36 rfl rfl (t_M_ok 11 (Nat.le_of_ble_eq_true rfl)) (fun _ => rfl) (fun _ => rfl) d_M_init_71 ew17 ?_
  rw [← hp_pr_len ew17] at he
  refine av_aload_n K d_M_init_74 rfl rfl ?_
  refine av_bipush (v := (12 : Int32)) K d_M_init_75 (by decide) ?_
  obtain ⟨w18, ew18, h⟩ := hp_bd h
  refine av_na (k := 0) (N := 12) (z := (12, .inl (fun _ => 0))) K hs0 he had ac_int rfl rfl (fun h => h) (fun _ => rfl) ⟨by decide, by decide⟩ (Nat.le_of_ble_eq_true rfl) (Nat.le_of_ble_eq_true rfl) (Nat.le_of_ble_eq_true rfl) d_M_init_77 (Option.some.inj ew18) ?_
  have he : s.heap.size + 9 = b + w18.length := by rw [← Option.some.inj ew18, List.length_append]; simp only [List.length_cons, List.length_nil]; omega
  obtain ⟨w19, ew19, h⟩ := hp_bd h
  refine av_pr (kf := 12) K hin la_M tq_M t_M_ok n_M rfl (Nat.le_of_ble_eq_true rfl) fk_M_39 rfl rfl (t_M_ok 12 (Nat.le_of_ble_eq_true rfl)) (fun _ => rfl) (fun _ => rfl) d_M_init_79 ew19 ?_
  rw [← hp_pr_len ew19] at he
  refine av_aload_n K d_M_init_82 rfl rfl ?_
  refine av_bipush (v := (12 : Int32)) K d_M_init_83 (by decide) ?_
  obtain ⟨w20, ew20, h⟩ := hp_bd h
  refine av_na (k := 2) (N := 12) (z := (12, .inl (fun _ => 0))) K hs0 he had ac_boolean rfl rfl (fun h => h) (fun _ => rfl) ⟨by decide, by decide⟩ (Nat.le_of_ble_eq_true rfl) (Nat.le_of_ble_eq_true rfl) (Nat.le_of_ble_eq_true rfl) d_M_init_85 (Option.some.inj ew20) ?_
  have he : s.heap.size + 10 = b + w20.length := by rw [← Option.some.inj ew20, List.length_append]; simp only [List.length_cons, List.length_nil]; omega
  obtain ⟨w21, ew21, h⟩ := hp_bd h
  refine av_pr (kf := 13) K hin la_M tq_M t_M_ok n_M rfl (Nat.le_of_ble_eq_true rfl) fk_M_42 rfl rfl (t_M_ok 13 (Nat.le_of_ble_eq_true rfl)) (fun _ => rfl) (fun _ => rfl) d_M_init_87 ew21 ?_
  rw [← hp_pr_len ew21] at he
  refine av_aload_n K d_M_init_90 rfl rfl ?_
  refine av_sipush (v := (1024 : Int32)) K d_M_init_91 (by decide) ?_
  obtain ⟨w22, ew22, h⟩ := hp_bd h
  refine av_na (k := 2) (N := 1024) (z := (1024, .inl (fun _ => 0))) K hs0 he had ac_boolean rfl rfl (fun h => h) (fun _ => rfl) ⟨by decide, by decide⟩ (Nat.le_of_ble_eq_true rfl) (Nat.le_of_ble_eq_true rfl) (Nat.le_of_ble_eq_true rfl) d_M_init_94 (Option.some.inj ew22) ?_
  have he : s.heap.size + 11 = b + w22.length := by rw [← Option.some.inj ew22, List.length_append]; simp only [List.length_cons, List.length_nil]; omega
  obtain ⟨w23, ew23, h⟩ := hp_bd h
  refine av_pr (kf := 14) K hin la_M tq_M t_M_ok n_M rfl (Nat.le_of_ble_eq_true rfl) fk_M_45 rfl rfl (t_M_ok 14 (Nat.le_of_ble_eq_true rfl)) (fun _ => rfl) (fun _ => rfl) d_M_init_96 ew23 ?_
  rw [← hp_pr_len ew23] at he
  refine av_aload_n K d_M_init_99 rfl rfl ?_
  refine av_sipush (v := (923 : Int32)) K d_M_init_100 (by decide) ?_
  obtain ⟨w24, ew24, h⟩ := hp_bd h
  refine av_na (k := 1) (N := 923) (z := (923, .inr (.inl (fun _ => 0)))) K hs0 he had ac_long rfl rfl (fun h => h) (fun _ => rfl) ⟨by decide, by decide⟩ (Nat.le_of_ble_eq_true rfl) (Nat.le_of_ble_eq_true rfl) (Nat.le_of_ble_eq_true rfl) d_M_init_103 (Option.some.inj ew24) ?_
  have he : s.heap.size + 12 = b + w24.length := by rw [← Option.some.inj ew24, List.length_append]; simp only [List.length_cons, List.length_nil]; omega
  obtain ⟨w25, ew25, h⟩ := hp_bd h
  refine av_pr (kf := 15) K hin la_M tq_M t_M_ok n_M rfl (Nat.le_of_ble_eq_true rfl) fk_M_48 rfl rfl (t_M_ok 15 (Nat.le_of_ble_eq_true rfl)) (fun _ => rfl) (fun _ => rfl) d_M_init_105 ew25 ?_
  rw [← hp_pr_len ew25] at he
  refine av_aload_n K d_M_init_108 rfl rfl ?_
  refine av_sipush (v := (301 : Int32)) K d_M_init_109 (by decide) ?_
  obtain ⟨w26, ew26, h⟩ := hp_bd h
  refine av_na (k := 0) (N := 301) (z := (301, .inl (fun _ => 0))) K hs0 he had ac_int rfl rfl (fun h => h) (fun _ => rfl) ⟨by decide, by decide⟩ (Nat.le_of_ble_eq_true rfl) (Nat.le_of_ble_eq_true rfl) (Nat.le_of_ble_eq_true rfl) d_M_init_112 (Option.some.inj ew26) ?_
  have he : s.heap.size + 13 = b + w26.length := by rw [← Option.some.inj ew26, List.length_append]; simp only [List.length_cons, List.length_nil]; omega
  obtain ⟨w27, ew27, h⟩ := hp_bd h
  refine av_pr (kf := 17) K hin la_M tq_M t_M_ok n_M rfl (Nat.le_of_ble_eq_true rfl) fk_M_52 rfl rfl (t_M_ok 17 (Nat.le_of_ble_eq_true rfl)) (fun _ => rfl) (fun _ => rfl) d_M_init_114 ew27 ?_
  rw [← hp_pr_len ew27] at he
  refine av_aload_n K d_M_init_117 rfl rfl ?_
  refine av_sipush (v := (301 : Int32)) K d_M_init_118 (by decide) ?_
  obtain ⟨w28, ew28, h⟩ := hp_bd h
  refine av_na (k := 0) (N := 301) (z := (301, .inl (fun _ => 0))) K hs0 he had ac_int rfl rfl (fun h => h) (fun _ => rfl) ⟨by decide, by decide⟩ (Nat.le_of_ble_eq_true rfl) (Nat.le_of_ble_eq_true rfl) (Nat.le_of_ble_eq_true rfl) d_M_init_121 (Option.some.inj ew28) ?_
  have he : s.heap.size + 14 = b + w28.length := by rw [← Option.some.inj ew28, List.length_append]; simp only [List.length_cons, List.length_nil]; omega
  obtain ⟨w29, ew29, h⟩ := hp_bd h
  refine av_pr (kf := 18) K hin la_M tq_M t_M_ok n_M rfl (Nat.le_of_ble_eq_true rfl) fk_M_55 rfl rfl (t_M_ok 18 (Nat.le_of_ble_eq_true rfl)) (fun _ => rfl) (fun _ => rfl) d_M_init_123 ew29 ?_
  rw [← hp_pr_len ew29] at he
  obtain rfl := Option.some.inj h
  exact av_return K hr d_M_init_126 ⟨rfl, by omega⟩
end
set_option maxRecDepth 100000 in
theorem c_M_init {l : Launch} {D : va_G} {ca : Nat → Nat} {fu : Nat} {v0 : Nat} {w r : List va_E} (h : f_M_init fu v0 w = some r) : av_Nv l D cl8 ca NS tabON y_M_init w_M_init rm_M_init 14 2833 [.ref v0] w (fun u => u = r ∧ u.length = w.length + 14) :=
  av_inN (cc := b_M_init) (nL := 1) (by decide +kernel) rfl rfl (Nat.le_of_ble_eq_true rfl) (fun p e s m args below meth c A ad b K G O hin hr hs0 had => v_M_init K G O hin hr fu v0 w hs0 had hs0 h)
