-- FaultTreeDesk$Truth.fillEvent(II)V
theorem d_T_fillEvent_0 : decode b_T_fillEvent 0 = .ok (.iconst 0, 1) := by decide +kernel
theorem d_T_fillEvent_1 : decode b_T_fillEvent 1 = .ok (.istore_n 3, 1) := by decide +kernel
theorem d_T_fillEvent_2 : decode b_T_fillEvent 2 = .ok (.iload_n 3, 1) := by decide +kernel
theorem d_T_fillEvent_3 : decode b_T_fillEvent 3 = .ok (.aload_n 0, 1) := by decide +kernel
theorem d_T_fillEvent_4 : decode b_T_fillEvent 4 = .ok (.getfield 24, 3) := by decide +kernel
theorem d_T_fillEvent_7 : decode b_T_fillEvent 7 = .ok (.if_icmp .ge 84, 3) := by decide +kernel
theorem d_T_fillEvent_10 : decode b_T_fillEvent 10 = .ok (.iload_n 2, 1) := by decide +kernel
theorem d_T_fillEvent_11 : decode b_T_fillEvent 11 = .ok (.ifCond .eq 26, 3) := by decide +kernel
theorem d_T_fillEvent_14 : decode b_T_fillEvent 14 = .ok (.aload_n 0, 1) := by decide +kernel
theorem d_T_fillEvent_15 : decode b_T_fillEvent 15 = .ok (.getfield 11, 3) := by decide +kernel
theorem d_T_fillEvent_18 : decode b_T_fillEvent 18 = .ok (.iload_n 1, 1) := by decide +kernel
theorem d_T_fillEvent_19 : decode b_T_fillEvent 19 = .ok (.aaload, 1) := by decide +kernel
theorem d_T_fillEvent_20 : decode b_T_fillEvent 20 = .ok (.iload_n 3, 1) := by decide +kernel
theorem d_T_fillEvent_21 : decode b_T_fillEvent 21 = .ok (.iload_n 2, 1) := by decide +kernel
theorem d_T_fillEvent_22 : decode b_T_fillEvent 22 = .ok (.iconst 2, 1) := by decide +kernel
theorem d_T_fillEvent_23 : decode b_T_fillEvent 23 = .ok (.if_icmp .ne 9, 3) := by decide +kernel
theorem d_T_fillEvent_26 : decode b_T_fillEvent 26 = .ok (.ldc2_w 52, 3) := by decide +kernel
theorem d_T_fillEvent_29 : decode b_T_fillEvent 29 = .ok (.goto 4, 3) := by decide +kernel
theorem d_T_fillEvent_32 : decode b_T_fillEvent 32 = .ok (.lconst 0, 1) := by decide +kernel
theorem d_T_fillEvent_33 : decode b_T_fillEvent 33 = .ok (.lastore, 1) := by decide +kernel
theorem d_T_fillEvent_34 : decode b_T_fillEvent 34 = .ok (.goto 51, 3) := by decide +kernel
theorem d_T_fillEvent_37 : decode b_T_fillEvent 37 = .ok (.iload_n 1, 1) := by decide +kernel
theorem d_T_fillEvent_38 : decode b_T_fillEvent 38 = .ok (.bipush 6, 2) := by decide +kernel
theorem d_T_fillEvent_40 : decode b_T_fillEvent 40 = .ok (.if_icmp .ge 19, 3) := by decide +kernel
theorem d_T_fillEvent_43 : decode b_T_fillEvent 43 = .ok (.aload_n 0, 1) := by decide +kernel
theorem d_T_fillEvent_44 : decode b_T_fillEvent 44 = .ok (.getfield 11, 3) := by decide +kernel
theorem d_T_fillEvent_47 : decode b_T_fillEvent 47 = .ok (.iload_n 1, 1) := by decide +kernel
theorem d_T_fillEvent_48 : decode b_T_fillEvent 48 = .ok (.aaload, 1) := by decide +kernel
theorem d_T_fillEvent_49 : decode b_T_fillEvent 49 = .ok (.iload_n 3, 1) := by decide +kernel
theorem d_T_fillEvent_50 : decode b_T_fillEvent 50 = .ok (.getstatic 54, 3) := by decide +kernel
theorem d_T_fillEvent_53 : decode b_T_fillEvent 53 = .ok (.iload_n 1, 1) := by decide +kernel
theorem d_T_fillEvent_54 : decode b_T_fillEvent 54 = .ok (.laload, 1) := by decide +kernel
theorem d_T_fillEvent_55 : decode b_T_fillEvent 55 = .ok (.lastore, 1) := by decide +kernel
theorem d_T_fillEvent_56 : decode b_T_fillEvent 56 = .ok (.goto 29, 3) := by decide +kernel
theorem d_T_fillEvent_59 : decode b_T_fillEvent 59 = .ok (.aload_n 0, 1) := by decide +kernel
theorem d_T_fillEvent_60 : decode b_T_fillEvent 60 = .ok (.getfield 11, 3) := by decide +kernel
theorem d_T_fillEvent_63 : decode b_T_fillEvent 63 = .ok (.iload_n 1, 1) := by decide +kernel
theorem d_T_fillEvent_64 : decode b_T_fillEvent 64 = .ok (.aaload, 1) := by decide +kernel
theorem d_T_fillEvent_65 : decode b_T_fillEvent 65 = .ok (.iload_n 3, 1) := by decide +kernel
theorem d_T_fillEvent_66 : decode b_T_fillEvent 66 = .ok (.iload_n 3, 1) := by decide +kernel
theorem d_T_fillEvent_67 : decode b_T_fillEvent 67 = .ok (.iload_n 1, 1) := by decide +kernel
theorem d_T_fillEvent_68 : decode b_T_fillEvent 68 = .ok (.bipush 6, 2) := by decide +kernel
theorem d_T_fillEvent_70 : decode b_T_fillEvent 70 = .ok (.isub, 1) := by decide +kernel
theorem d_T_fillEvent_71 : decode b_T_fillEvent 71 = .ok (.ishr, 1) := by decide +kernel
theorem d_T_fillEvent_72 : decode b_T_fillEvent 72 = .ok (.iconst 1, 1) := by decide +kernel
theorem d_T_fillEvent_73 : decode b_T_fillEvent 73 = .ok (.iand, 1) := by decide +kernel
theorem d_T_fillEvent_74 : decode b_T_fillEvent 74 = .ok (.ifCond .eq 9, 3) := by decide +kernel
theorem d_T_fillEvent_77 : decode b_T_fillEvent 77 = .ok (.ldc2_w 52, 3) := by decide +kernel
theorem d_T_fillEvent_80 : decode b_T_fillEvent 80 = .ok (.goto 4, 3) := by decide +kernel
theorem d_T_fillEvent_83 : decode b_T_fillEvent 83 = .ok (.lconst 0, 1) := by decide +kernel
theorem d_T_fillEvent_84 : decode b_T_fillEvent 84 = .ok (.lastore, 1) := by decide +kernel
theorem d_T_fillEvent_85 : decode b_T_fillEvent 85 = .ok (.iinc 3 1, 3) := by decide +kernel
theorem d_T_fillEvent_88 : decode b_T_fillEvent 88 = .ok (.goto (-86), 3) := by decide +kernel
theorem d_T_fillEvent_91 : decode b_T_fillEvent 91 = .ok (.return_, 1) := by decide +kernel
def rm_T_fillEvent : Room := { frames := 0, cells := 0, slots := 0, locals := 0 }
def f_T_fillEvent_85 (fu : Nat) (k2 : Nat → Int32 → Int32 → Int32 → List va_E → Option (List va_E)) (v0 : Nat) (v1 : Int32) (v2 : Int32) (v3 : Int32) (w : List va_E) : Option (List va_E) := (k2 (v0) (v1) (v2) ((v3 + (1 : Int32))) w)
def f_T_fillEvent_33 (fu : Nat) (k2 : Nat → Int32 → Int32 → Int32 → List va_E → Option (List va_E)) (v0 : Nat) (v1 : Int32) (v2 : Int32) (v3 : Int32) (s0 : Nat) (s1 : Int32) (s2 : Int64) (w : List va_E) : Option (List va_E) := ((hp_wl w s0 s1 s2).bind fun w1 => (f_T_fillEvent_85 fu k2 (v0) (v1) (v2) (v3) w1))
def f_T_fillEvent_84 (fu : Nat) (k2 : Nat → Int32 → Int32 → Int32 → List va_E → Option (List va_E)) (v0 : Nat) (v1 : Int32) (v2 : Int32) (v3 : Int32) (s0 : Nat) (s1 : Int32) (s2 : Int64) (w : List va_E) : Option (List va_E) := ((hp_wl w s0 s1 s2).bind fun w1 => (f_T_fillEvent_85 fu k2 (v0) (v1) (v2) (v3) w1))
def f_T_fillEvent_2 (fu : Nat) : Nat → Nat → Int32 → Int32 → Int32 → List va_E → Option (List va_E)
  | 0, _, _, _, _, _ => none
  | n + 1, v0, v1, v2, v3, w => ((hp_gi w v0 5 3).bind fun x1 => (if x1 ≤ v3 then (some w) else (if v2 = 0 then (if (6 : Int32) ≤ v1 then ((hp_gr w v0 5 0).bind fun q2 => ((hp_ra w q2 v1).bind fun q3 => (if ((v3 >>> ((v1 - (6 : Int32)) &&& 31)) &&& (1 : Int32)) = 0 then (f_T_fillEvent_84 fu (f_T_fillEvent_2 fu n) (v0) (v1) (v2) (v3) (q3) (v3) ((0 : Int64)) w) else (f_T_fillEvent_84 fu (f_T_fillEvent_2 fu n) (v0) (v1) (v2) (v3) (q3) (v3) ((-1 : Int64)) w)))) else ((hp_gr w v0 5 0).bind fun q4 => ((hp_ra w q4 v1).bind fun q5 => (if ¬ (v1 < 0 ∨ 6 ≤ (v1).toNatClampNeg) then ((hp_wl w q5 v3 (tabON (v1).toNatClampNeg)).bind fun w6 => (f_T_fillEvent_85 fu (f_T_fillEvent_2 fu n) (v0) (v1) (v2) (v3) w6)) else none)))) else ((hp_gr w v0 5 0).bind fun q7 => ((hp_ra w q7 v1).bind fun q8 => (if v2 = (2 : Int32) then (f_T_fillEvent_33 fu (f_T_fillEvent_2 fu n) (v0) (v1) (v2) (v3) (q8) (v3) ((-1 : Int64)) w) else (f_T_fillEvent_33 fu (f_T_fillEvent_2 fu n) (v0) (v1) (v2) (v3) (q8) (v3) ((0 : Int64)) w)))))))
def f_T_fillEvent (fu : Nat) (v0 : Nat) (v1 : Int32) (v2 : Int32) (w : List va_E) : Option (List va_E) := (f_T_fillEvent_2 fu fu (v0) (v1) (v2) ((0 : Int32)) w)
section
variable {p : Program} {l : Launch} {e : Env} {s : State} {m : MethodId} {args : Array Value} {below : List Frame} {meth : Method} {c : Code} {D : va_G} {ca : Nat → Nat} {A : Nat → Prop} {ad : Nat → Nat}
set_option maxRecDepth 100000 in
set_option maxHeartbeats 4000000 in
theorem v_T_fillEvent_85 (K : av_K p s m args meth c D cl8 ca A b_T_fillEvent 4 R_T WS) (G : av_G NS tabON A s s.heap) (hr : meth.sig.returnType = none) (fu : Nat) {r : List va_E} (k2 : Nat → Int32 → Int32 → Int32 → List va_E → Option (List va_E)) (hk2 : ∀ (v0 : Nat) (v1 : Int32) (v2 : Int32) (v3 : Int32) (w : List va_E), k2 v0 v1 v2 v3 w = some r → av_VV p l e rm_T_fillEvent s m args below meth c D cl8 A ad ca 4 r 2 [some (.ref v0), some (.int v1), some (.int v2), some (.int v3)] [] w) (v0 : Nat) (v1 : Int32) (v2 : Int32) (v3 : Int32) (w : List va_E) (h : f_T_fillEvent_85 fu k2 v0 v1 v2 v3 w = some r) : av_VV p l e rm_T_fillEvent s m args below meth c D cl8 A ad ca 4 r 85 [some (.ref v0), some (.int v1), some (.int v2), some (.int v3)] [] w := by
  unfold f_T_fillEvent_85 at h
  refine av_iinc (v := (v3 + (1 : Int32))) (L' := [some (.ref v0), some (.int v1), some (.int v2), some (.int (v3 + (1 : Int32)))]) K d_T_fillEvent_85 rfl (congrArg (fun z => v3 + z) (show Int32.ofInt 1 = (1 : Int32) by decide)) (Nat.le_of_ble_eq_true rfl) rfl ?_
  refine av_goto (tgt := 2) K d_T_fillEvent_88 rfl ?_
  exact hk2 (v0) (v1) (v2) ((v3 + (1 : Int32))) _ h
set_option maxRecDepth 100000 in
set_option maxHeartbeats 4000000 in
theorem v_T_fillEvent_33 (K : av_K p s m args meth c D cl8 ca A b_T_fillEvent 4 R_T WS) (G : av_G NS tabON A s s.heap) (hr : meth.sig.returnType = none) (fu : Nat) {r : List va_E} (k2 : Nat → Int32 → Int32 → Int32 → List va_E → Option (List va_E)) (hk2 : ∀ (v0 : Nat) (v1 : Int32) (v2 : Int32) (v3 : Int32) (w : List va_E), k2 v0 v1 v2 v3 w = some r → av_VV p l e rm_T_fillEvent s m args below meth c D cl8 A ad ca 4 r 2 [some (.ref v0), some (.int v1), some (.int v2), some (.int v3)] [] w) (v0 : Nat) (v1 : Int32) (v2 : Int32) (v3 : Int32) (s0 : Nat) (s1 : Int32) (s2 : Int64) (w : List va_E) (h : f_T_fillEvent_33 fu k2 v0 v1 v2 v3 s0 s1 s2 w = some r) : av_VV p l e rm_T_fillEvent s m args below meth c D cl8 A ad ca 4 r 33 [some (.ref v0), some (.int v1), some (.int v2), some (.int v3)] [.long s2, .int s1, .ref s0] w := by
  unfold f_T_fillEvent_33 at h
  obtain ⟨w1, ew1, h⟩ := hp_bd h
  refine hv_wl K d_T_fillEvent_33 ew1 ?_
  refine av_goto (tgt := 85) K d_T_fillEvent_34 rfl ?_
  exact v_T_fillEvent_85 K G hr fu k2 hk2 (v0) (v1) (v2) (v3) _ h
set_option maxRecDepth 100000 in
set_option maxHeartbeats 4000000 in
theorem v_T_fillEvent_84 (K : av_K p s m args meth c D cl8 ca A b_T_fillEvent 4 R_T WS) (G : av_G NS tabON A s s.heap) (hr : meth.sig.returnType = none) (fu : Nat) {r : List va_E} (k2 : Nat → Int32 → Int32 → Int32 → List va_E → Option (List va_E)) (hk2 : ∀ (v0 : Nat) (v1 : Int32) (v2 : Int32) (v3 : Int32) (w : List va_E), k2 v0 v1 v2 v3 w = some r → av_VV p l e rm_T_fillEvent s m args below meth c D cl8 A ad ca 4 r 2 [some (.ref v0), some (.int v1), some (.int v2), some (.int v3)] [] w) (v0 : Nat) (v1 : Int32) (v2 : Int32) (v3 : Int32) (s0 : Nat) (s1 : Int32) (s2 : Int64) (w : List va_E) (h : f_T_fillEvent_84 fu k2 v0 v1 v2 v3 s0 s1 s2 w = some r) : av_VV p l e rm_T_fillEvent s m args below meth c D cl8 A ad ca 4 r 84 [some (.ref v0), some (.int v1), some (.int v2), some (.int v3)] [.long s2, .int s1, .ref s0] w := by
  unfold f_T_fillEvent_84 at h
  obtain ⟨w1, ew1, h⟩ := hp_bd h
  refine hv_wl K d_T_fillEvent_84 ew1 ?_
  exact v_T_fillEvent_85 K G hr fu k2 hk2 (v0) (v1) (v2) (v3) _ h
set_option maxRecDepth 100000 in
set_option maxHeartbeats 4000000 in
theorem v_T_fillEvent_2 (K : av_K p s m args meth c D cl8 ca A b_T_fillEvent 4 R_T WS) (G : av_G NS tabON A s s.heap) (hr : meth.sig.returnType = none) (fu : Nat) {r : List va_E} : ∀ (n : Nat) (v0 : Nat) (v1 : Int32) (v2 : Int32) (v3 : Int32) (w : List va_E), f_T_fillEvent_2 fu n v0 v1 v2 v3 w = some r → av_VV p l e rm_T_fillEvent s m args below meth c D cl8 A ad ca 4 r 2 [some (.ref v0), some (.int v1), some (.int v2), some (.int v3)] [] w := by
  intro n
  induction n with
  | zero => intro _ _ _ _ _ h; cases h
  | succ n ih =>
    intro v0 v1 v2 v3 w h
    unfold f_T_fillEvent_2 at h
    refine av_iload_n K d_T_fillEvent_2 rfl rfl ?_
    refine av_aload_n K d_T_fillEvent_3 rfl rfl ?_
    obtain ⟨x1, ex1, h⟩ := hp_bd h
    refine hv_gi K fl_T_24 d_T_fillEvent_4 ex1 ?_
    refine av_icmp_ge (tgt := 91) K d_T_fillEvent_7 rfl (fun hc => ?_) (fun hc => ?_)
    · rw [if_pos hc] at h
      obtain rfl := Option.some.inj h
      exact av_return K hr d_T_fillEvent_91 rfl
    · rw [if_neg hc] at h
      refine av_iload_n K d_T_fillEvent_10 rfl rfl ?_
      refine av_if_eq (tgt := 37) K d_T_fillEvent_11 rfl (fun hc => ?_) (fun hc => ?_)
      · rw [if_pos hc] at h
        refine av_iload_n K d_T_fillEvent_37 rfl rfl ?_
        refine av_bipush (v := (6 : Int32)) K d_T_fillEvent_38 (by decide) ?_
        refine av_icmp_ge (tgt := 59) K d_T_fillEvent_40 rfl (fun hc => ?_) (fun hc => ?_)
        · rw [if_pos hc] at h
          refine av_aload_n K d_T_fillEvent_59 rfl rfl ?_
          obtain ⟨q2, eq2, h⟩ := hp_bd h
          refine hv_gr K fl_T_11 d_T_fillEvent_60 eq2 ?_
          refine av_iload_n K d_T_fillEvent_63 rfl rfl ?_
          obtain ⟨q3, eq3, h⟩ := hp_bd h
          refine hv_ra K d_T_fillEvent_64 eq3 ?_
          refine av_iload_n K d_T_fillEvent_65 rfl rfl ?_
          refine av_iload_n K d_T_fillEvent_66 rfl rfl ?_
          refine av_iload_n K d_T_fillEvent_67 rfl rfl ?_
          refine av_bipush (v := (6 : Int32)) K d_T_fillEvent_68 (by decide) ?_
          refine av_isub K d_T_fillEvent_70 ?_
          refine av_ishr K d_T_fillEvent_71 ?_
          refine av_iconst (v := (1 : Int32)) K d_T_fillEvent_72 (by decide) ?_
          refine av_iand K d_T_fillEvent_73 ?_
          refine av_if_eq (tgt := 83) K d_T_fillEvent_74 rfl (fun hc => ?_) (fun hc => ?_)
          · rw [if_pos hc] at h
            refine av_lconst (v := (0 : Int64)) K d_T_fillEvent_83 (by decide) ?_
            exact v_T_fillEvent_84 K G hr fu (f_T_fillEvent_2 fu n) ih (v0) (v1) (v2) (v3) (q3) (v3) ((0 : Int64)) _ h
          · rw [if_neg hc] at h
            refine av_ldc2 K (cl_T_52) d_T_fillEvent_77 ?_
            refine av_goto (tgt := 84) K d_T_fillEvent_80 rfl ?_
            exact v_T_fillEvent_84 K G hr fu (f_T_fillEvent_2 fu n) ih (v0) (v1) (v2) (v3) (q3) (v3) ((-1 : Int64)) _ h
        · rw [if_neg hc] at h
          refine av_aload_n K d_T_fillEvent_43 rfl rfl ?_
          obtain ⟨q4, eq4, h⟩ := hp_bd h
          refine hv_gr K fl_T_11 d_T_fillEvent_44 eq4 ?_
          refine av_iload_n K d_T_fillEvent_47 rfl rfl ?_
          obtain ⟨q5, eq5, h⟩ := hp_bd h
          refine hv_ra K d_T_fillEvent_48 eq5 ?_
          refine av_iload_n K d_T_fillEvent_49 rfl rfl ?_
          obtain ⟨hi53, h⟩ := hp_if h
          refine av_tab K G st_T d_T_fillEvent_50 (fun H locs ls rest hL hk => lv_iload_n K.1 K.2.1 d_T_fillEvent_53 rfl (hL.2.2 1 _ rfl) hk) d_T_fillEvent_54 hi53 ?_
          obtain ⟨w6, ew6, h⟩ := hp_bd h
          refine hv_wl K d_T_fillEvent_55 ew6 ?_
          refine av_goto (tgt := 85) K d_T_fillEvent_56 rfl ?_
          exact v_T_fillEvent_85 K G hr fu (f_T_fillEvent_2 fu n) ih (v0) (v1) (v2) (v3) _ h
      · rw [if_neg hc] at h
        refine av_aload_n K d_T_fillEvent_14 rfl rfl ?_
        obtain ⟨q7, eq7, h⟩ := hp_bd h
        refine hv_gr K fl_T_11 d_T_fillEvent_15 eq7 ?_
        refine av_iload_n K d_T_fillEvent_18 rfl rfl ?_
        obtain ⟨q8, eq8, h⟩ := hp_bd h
        refine hv_ra K d_T_fillEvent_19 eq8 ?_
        refine av_iload_n K d_T_fillEvent_20 rfl rfl ?_
        refine av_iload_n K d_T_fillEvent_21 rfl rfl ?_
        refine av_iconst (v := (2 : Int32)) K d_T_fillEvent_22 (by decide) ?_
        refine av_icmp_ne (tgt := 32) K d_T_fillEvent_23 rfl (fun hc => ?_) (fun hc => ?_)
        · rw [if_neg hc] at h
          refine av_lconst (v := (0 : Int64)) K d_T_fillEvent_32 (by decide) ?_
          exact v_T_fillEvent_33 K G hr fu (f_T_fillEvent_2 fu n) ih (v0) (v1) (v2) (v3) (q8) (v3) ((0 : Int64)) _ h
        · rw [if_pos hc] at h
          refine av_ldc2 K (cl_T_52) d_T_fillEvent_26 ?_
          refine av_goto (tgt := 33) K d_T_fillEvent_29 rfl ?_
          exact v_T_fillEvent_33 K G hr fu (f_T_fillEvent_2 fu n) ih (v0) (v1) (v2) (v3) (q8) (v3) ((-1 : Int64)) _ h
set_option maxRecDepth 100000 in
set_option maxHeartbeats 4000000 in
theorem v_T_fillEvent (K : av_K p s m args meth c D cl8 ca A b_T_fillEvent 4 R_T WS) (G : av_G NS tabON A s s.heap) (hr : meth.sig.returnType = none) (fu : Nat) {r : List va_E} (v0 : Nat) (v1 : Int32) (v2 : Int32) (w : List va_E) (h : f_T_fillEvent fu v0 v1 v2 w = some r) : av_VV p l e rm_T_fillEvent s m args below meth c D cl8 A ad ca 4 r 0 [some (.ref v0), some (.int v1), some (.int v2), none] [] w := by
  unfold f_T_fillEvent at h
  refine av_iconst (v := (0 : Int32)) K d_T_fillEvent_0 (by decide) ?_
  refine av_istore_n (L' := [some (.ref v0), some (.int v1), some (.int v2), some (.int (0 : Int32))]) K d_T_fillEvent_1 rfl (Nat.le_of_ble_eq_true rfl) rfl ?_
  exact v_T_fillEvent_2 K G hr fu fu (v0) (v1) (v2) ((0 : Int32)) _ h
end
set_option maxRecDepth 100000 in
theorem c_T_fillEvent {l : Launch} {D : va_G} {ca : Nat → Nat} {tab : Nat → Int64} {fu : Nat} {v0 : Nat} {v1 : Int32} {v2 : Int32} {w : List va_E} {r : List va_E} (h : f_T_fillEvent fu v0 v1 v2 w = some r) : av_Cv l D cl8 ca NS tabON y_T_fillEvent w_T_fillEvent rm_T_fillEvent [.ref v0, .int v1, .int v2] w (fun u => u = r) :=
  av_inV (cc := b_T_fillEvent) (nL := 4) (by decide +kernel) rfl (Nat.le_of_ble_eq_true rfl) (fun p e s m args below meth c A ad K G hr => v_T_fillEvent K G hr fu v0 v1 v2 w h)

-- FaultTreeDesk$Truth.listInputs(I)I
theorem d_T_listInputs_0 : decode b_T_listInputs 0 = .ok (.iconst 0, 1) := by decide +kernel
theorem d_T_listInputs_1 : decode b_T_listInputs 1 = .ok (.istore_n 2, 1) := by decide +kernel
theorem d_T_listInputs_2 : decode b_T_listInputs 2 = .ok (.iconst 0, 1) := by decide +kernel
theorem d_T_listInputs_3 : decode b_T_listInputs 3 = .ok (.istore_n 3, 1) := by decide +kernel
theorem d_T_listInputs_4 : decode b_T_listInputs 4 = .ok (.iload_n 3, 1) := by decide +kernel
theorem d_T_listInputs_5 : decode b_T_listInputs 5 = .ok (.bipush 28, 2) := by decide +kernel
theorem d_T_listInputs_7 : decode b_T_listInputs 7 = .ok (.if_icmp .ge 32, 3) := by decide +kernel
theorem d_T_listInputs_10 : decode b_T_listInputs 10 = .ok (.iload_n 2, 1) := by decide +kernel
theorem d_T_listInputs_11 : decode b_T_listInputs 11 = .ok (.iconst 4, 1) := by decide +kernel
theorem d_T_listInputs_12 : decode b_T_listInputs 12 = .ok (.if_icmp .ge 27, 3) := by decide +kernel
theorem d_T_listInputs_15 : decode b_T_listInputs 15 = .ok (.iload_n 1, 1) := by decide +kernel
theorem d_T_listInputs_16 : decode b_T_listInputs 16 = .ok (.iload_n 3, 1) := by decide +kernel
theorem d_T_listInputs_17 : decode b_T_listInputs 17 = .ok (.ishr, 1) := by decide +kernel
theorem d_T_listInputs_18 : decode b_T_listInputs 18 = .ok (.iconst 1, 1) := by decide +kernel
theorem d_T_listInputs_19 : decode b_T_listInputs 19 = .ok (.iand, 1) := by decide +kernel
theorem d_T_listInputs_20 : decode b_T_listInputs 20 = .ok (.ifCond .eq 13, 3) := by decide +kernel
theorem d_T_listInputs_23 : decode b_T_listInputs 23 = .ok (.aload_n 0, 1) := by decide +kernel
theorem d_T_listInputs_24 : decode b_T_listInputs 24 = .ok (.getfield 16, 3) := by decide +kernel
theorem d_T_listInputs_27 : decode b_T_listInputs 27 = .ok (.iload_n 2, 1) := by decide +kernel
theorem d_T_listInputs_28 : decode b_T_listInputs 28 = .ok (.iload_n 3, 1) := by decide +kernel
theorem d_T_listInputs_29 : decode b_T_listInputs 29 = .ok (.iastore, 1) := by decide +kernel
theorem d_T_listInputs_30 : decode b_T_listInputs 30 = .ok (.iinc 2 1, 3) := by decide +kernel
theorem d_T_listInputs_33 : decode b_T_listInputs 33 = .ok (.iinc 3 1, 3) := by decide +kernel
theorem d_T_listInputs_36 : decode b_T_listInputs 36 = .ok (.goto (-32), 3) := by decide +kernel
theorem d_T_listInputs_39 : decode b_T_listInputs 39 = .ok (.iload_n 2, 1) := by decide +kernel
theorem d_T_listInputs_40 : decode b_T_listInputs 40 = .ok (.ireturn, 1) := by decide +kernel
def rm_T_listInputs : Room := { frames := 0, cells := 0, slots := 0, locals := 0 }
def f_T_listInputs_33 (fu : Nat) (k4 : Nat → Int32 → Int32 → Int32 → List va_E → Option (Int32 × List va_E)) (v0 : Nat) (v1 : Int32) (v2 : Int32) (v3 : Int32) (w : List va_E) : Option (Int32 × List va_E) := (k4 (v0) (v1) (v2) ((v3 + (1 : Int32))) w)
def f_T_listInputs_39 (fu : Nat) (v2 : Int32) (w : List va_E) : Option (Int32 × List va_E) := (some (v2, w))
def f_T_listInputs_4 (fu : Nat) : Nat → Nat → Int32 → Int32 → Int32 → List va_E → Option (Int32 × List va_E)
  | 0, _, _, _, _, _ => none
  | n + 1, v0, v1, v2, v3, w => (if (28 : Int32) ≤ v3 then (f_T_listInputs_39 fu (v2) w) else (if (4 : Int32) ≤ v2 then (f_T_listInputs_39 fu (v2) w) else (if ((v1 >>> (v3 &&& 31)) &&& (1 : Int32)) = 0 then (f_T_listInputs_33 fu (f_T_listInputs_4 fu n) (v0) (v1) (v2) (v3) w) else ((hp_gr w v0 5 1).bind fun q1 => ((hp_wi w q1 v2 v3).bind fun w2 => (f_T_listInputs_33 fu (f_T_listInputs_4 fu n) (v0) (v1) ((v2 + (1 : Int32))) (v3) w2))))))
def f_T_listInputs (fu : Nat) (v0 : Nat) (v1 : Int32) (w : List va_E) : Option (Int32 × List va_E) := (f_T_listInputs_4 fu fu (v0) (v1) ((0 : Int32)) ((0 : Int32)) w)
section
variable {p : Program} {l : Launch} {e : Env} {s : State} {m : MethodId} {args : Array Value} {below : List Frame} {meth : Method} {c : Code} {D : va_G} {ca : Nat → Nat} {A : Nat → Prop} {ad : Nat → Nat}
set_option maxRecDepth 100000 in
set_option maxHeartbeats 4000000 in
theorem v_T_listInputs_33 (K : av_K p s m args meth c D cl8 ca A b_T_listInputs 4 R_T WS) (G : av_G NS tabON A s s.heap) (hr : meth.sig.returnType = some .int) (fu : Nat) {r : Int32 × List va_E} (k4 : Nat → Int32 → Int32 → Int32 → List va_E → Option (Int32 × List va_E)) (hk4 : ∀ (v0 : Nat) (v1 : Int32) (v2 : Int32) (v3 : Int32) (w : List va_E), k4 v0 v1 v2 v3 w = some r → av_VI p l e rm_T_listInputs s m args below meth c D cl8 A ad ca 4 r 4 [some (.ref v0), some (.int v1), some (.int v2), some (.int v3)] [] w) (v0 : Nat) (v1 : Int32) (v2 : Int32) (v3 : Int32) (w : List va_E) (h : f_T_listInputs_33 fu k4 v0 v1 v2 v3 w = some r) : av_VI p l e rm_T_listInputs s m args below meth c D cl8 A ad ca 4 r 33 [some (.ref v0), some (.int v1), some (.int v2), some (.int v3)] [] w := by
  unfold f_T_listInputs_33 at h
  refine av_iinc (v := (v3 + (1 : Int32))) (L' := [some (.ref v0), some (.int v1), some (.int v2), some (.int (v3 + (1 : Int32)))]) K d_T_listInputs_33 rfl (congrArg (fun z => v3 + z) (show Int32.ofInt 1 = (1 : Int32) by decide)) (Nat.le_of_ble_eq_true rfl) rfl ?_
  refine av_goto (tgt := 4) K d_T_listInputs_36 rfl ?_
  exact hk4 (v0) (v1) (v2) ((v3 + (1 : Int32))) _ h
set_option maxRecDepth 100000 in
set_option maxHeartbeats 4000000 in
theorem v_T_listInputs_39 (K : av_K p s m args meth c D cl8 ca A b_T_listInputs 4 R_T WS) (G : av_G NS tabON A s s.heap) (hr : meth.sig.returnType = some .int) (fu : Nat) {r : Int32 × List va_E} (v2 : Int32) (w : List va_E) (h : f_T_listInputs_39 fu v2 w = some r) : av_VI p l e rm_T_listInputs s m args below meth c D cl8 A ad ca 4 r 39 [none, none, some (.int v2), none] [] w := by
  unfold f_T_listInputs_39 at h
  refine av_iload_n K d_T_listInputs_39 rfl rfl ?_
  obtain rfl := Option.some.inj h
  exact av_ireturn K hr d_T_listInputs_40 rfl
set_option maxRecDepth 100000 in
set_option maxHeartbeats 4000000 in
theorem v_T_listInputs_4 (K : av_K p s m args meth c D cl8 ca A b_T_listInputs 4 R_T WS) (G : av_G NS tabON A s s.heap) (hr : meth.sig.returnType = some .int) (fu : Nat) {r : Int32 × List va_E} : ∀ (n : Nat) (v0 : Nat) (v1 : Int32) (v2 : Int32) (v3 : Int32) (w : List va_E), f_T_listInputs_4 fu n v0 v1 v2 v3 w = some r → av_VI p l e rm_T_listInputs s m args below meth c D cl8 A ad ca 4 r 4 [some (.ref v0), some (.int v1), some (.int v2), some (.int v3)] [] w := by
  intro n
  induction n with
  | zero => intro _ _ _ _ _ h; cases h
  | succ n ih =>
    intro v0 v1 v2 v3 w h
    unfold f_T_listInputs_4 at h
    refine av_iload_n K d_T_listInputs_4 rfl rfl ?_
    refine av_bipush (v := (28 : Int32)) K d_T_listInputs_5 (by decide) ?_
    refine av_icmp_ge (tgt := 39) K d_T_listInputs_7 rfl (fun hc => ?_) (fun hc => ?_)
    · rw [if_pos hc] at h
      refine hv_fg (L' := [none, none, some (.int v2), none]) [0, 1, 3] rfl ?_
      exact v_T_listInputs_39 K G hr fu (v2) _ h
    · rw [if_neg hc] at h
      refine av_iload_n K d_T_listInputs_10 rfl rfl ?_
      refine av_iconst (v := (4 : Int32)) K d_T_listInputs_11 (by decide) ?_
      refine av_icmp_ge (tgt := 39) K d_T_listInputs_12 rfl (fun hc => ?_) (fun hc => ?_)
      · rw [if_pos hc] at h
        refine hv_fg (L' := [none, none, some (.int v2), none]) [0, 1, 3] rfl ?_
        exact v_T_listInputs_39 K G hr fu (v2) _ h
      · rw [if_neg hc] at h
        refine av_iload_n K d_T_listInputs_15 rfl rfl ?_
        refine av_iload_n K d_T_listInputs_16 rfl rfl ?_
        refine av_ishr K d_T_listInputs_17 ?_
        refine av_iconst (v := (1 : Int32)) K d_T_listInputs_18 (by decide) ?_
        refine av_iand K d_T_listInputs_19 ?_
        refine av_if_eq (tgt := 33) K d_T_listInputs_20 rfl (fun hc => ?_) (fun hc => ?_)
        · rw [if_pos hc] at h
          exact v_T_listInputs_33 K G hr fu (f_T_listInputs_4 fu n) ih (v0) (v1) (v2) (v3) _ h
        · rw [if_neg hc] at h
          refine av_aload_n K d_T_listInputs_23 rfl rfl ?_
          obtain ⟨q1, eq1, h⟩ := hp_bd h
          refine hv_gr K fl_T_16 d_T_listInputs_24 eq1 ?_
          refine av_iload_n K d_T_listInputs_27 rfl rfl ?_
          refine av_iload_n K d_T_listInputs_28 rfl rfl ?_
          obtain ⟨w2, ew2, h⟩ := hp_bd h
          refine hv_wi K d_T_listInputs_29 ew2 ?_
          refine av_iinc (v := (v2 + (1 : Int32))) (L' := [some (.ref v0), some (.int v1), some (.int (v2 + (1 : Int32))), some (.int v3)]) K d_T_listInputs_30 rfl (congrArg (fun z => v2 + z) (show Int32.ofInt 1 = (1 : Int32) by decide)) (Nat.le_of_ble_eq_true rfl) rfl ?_
          exact v_T_listInputs_33 K G hr fu (f_T_listInputs_4 fu n) ih (v0) (v1) ((v2 + (1 : Int32))) (v3) _ h
set_option maxRecDepth 100000 in
set_option maxHeartbeats 4000000 in
theorem v_T_listInputs (K : av_K p s m args meth c D cl8 ca A b_T_listInputs 4 R_T WS) (G : av_G NS tabON A s s.heap) (hr : meth.sig.returnType = some .int) (fu : Nat) {r : Int32 × List va_E} (v0 : Nat) (v1 : Int32) (w : List va_E) (h : f_T_listInputs fu v0 v1 w = some r) : av_VI p l e rm_T_listInputs s m args below meth c D cl8 A ad ca 4 r 0 [some (.ref v0), some (.int v1), none, none] [] w := by
  unfold f_T_listInputs at h
  refine av_iconst (v := (0 : Int32)) K d_T_listInputs_0 (by decide) ?_
  refine av_istore_n (L' := [some (.ref v0), some (.int v1), some (.int (0 : Int32)), none]) K d_T_listInputs_1 rfl (Nat.le_of_ble_eq_true rfl) rfl ?_
  refine av_iconst (v := (0 : Int32)) K d_T_listInputs_2 (by decide) ?_
  refine av_istore_n (L' := [some (.ref v0), some (.int v1), some (.int (0 : Int32)), some (.int (0 : Int32))]) K d_T_listInputs_3 rfl (Nat.le_of_ble_eq_true rfl) rfl ?_
  exact v_T_listInputs_4 K G hr fu fu (v0) (v1) ((0 : Int32)) ((0 : Int32)) _ h
end
set_option maxRecDepth 100000 in
theorem c_T_listInputs {l : Launch} {D : va_G} {ca : Nat → Nat} {tab : Nat → Int64} {fu : Nat} {v0 : Nat} {v1 : Int32} {w : List va_E} {r : Int32 × List va_E} (h : f_T_listInputs fu v0 v1 w = some r) : av_Ci l D cl8 ca NS tabON y_T_listInputs w_T_listInputs rm_T_listInputs [.ref v0, .int v1] w (fun v u => (v, u) = r) :=
  av_inI (cc := b_T_listInputs) (nL := 4) (by decide +kernel) rfl (Nat.le_of_ble_eq_true rfl) (fun p e s m args below meth c A ad K G hr => v_T_listInputs K G hr fu v0 v1 w h)

-- FaultTreeDesk$Truth.oddWord(II)J
theorem d_T_oddWord_0 : decode b_T_oddWord 0 = .ok (.lconst 0, 1) := by decide +kernel
theorem d_T_oddWord_1 : decode b_T_oddWord 1 = .ok (.lstore_n 3, 1) := by decide +kernel
theorem d_T_oddWord_2 : decode b_T_oddWord 2 = .ok (.iconst 0, 1) := by decide +kernel
theorem d_T_oddWord_3 : decode b_T_oddWord 3 = .ok (.istore 5, 2) := by decide +kernel
theorem d_T_oddWord_5 : decode b_T_oddWord 5 = .ok (.iload 5, 2) := by decide +kernel
theorem d_T_oddWord_7 : decode b_T_oddWord 7 = .ok (.iload_n 1, 1) := by decide +kernel
theorem d_T_oddWord_8 : decode b_T_oddWord 8 = .ok (.if_icmp .ge 26, 3) := by decide +kernel
theorem d_T_oddWord_11 : decode b_T_oddWord 11 = .ok (.lload_n 3, 1) := by decide +kernel
theorem d_T_oddWord_12 : decode b_T_oddWord 12 = .ok (.aload_n 0, 1) := by decide +kernel
theorem d_T_oddWord_13 : decode b_T_oddWord 13 = .ok (.getfield 11, 3) := by decide +kernel
theorem d_T_oddWord_16 : decode b_T_oddWord 16 = .ok (.aload_n 0, 1) := by decide +kernel
theorem d_T_oddWord_17 : decode b_T_oddWord 17 = .ok (.getfield 16, 3) := by decide +kernel
theorem d_T_oddWord_20 : decode b_T_oddWord 20 = .ok (.iload 5, 2) := by decide +kernel
theorem d_T_oddWord_22 : decode b_T_oddWord 22 = .ok (.iaload, 1) := by decide +kernel
theorem d_T_oddWord_23 : decode b_T_oddWord 23 = .ok (.aaload, 1) := by decide +kernel
theorem d_T_oddWord_24 : decode b_T_oddWord 24 = .ok (.iload_n 2, 1) := by decide +kernel
theorem d_T_oddWord_25 : decode b_T_oddWord 25 = .ok (.laload, 1) := by decide +kernel
theorem d_T_oddWord_26 : decode b_T_oddWord 26 = .ok (.lxor, 1) := by decide +kernel
theorem d_T_oddWord_27 : decode b_T_oddWord 27 = .ok (.lstore_n 3, 1) := by decide +kernel
theorem d_T_oddWord_28 : decode b_T_oddWord 28 = .ok (.iinc 5 1, 3) := by decide +kernel
theorem d_T_oddWord_31 : decode b_T_oddWord 31 = .ok (.goto (-26), 3) := by decide +kernel
theorem d_T_oddWord_34 : decode b_T_oddWord 34 = .ok (.lload_n 3, 1) := by decide +kernel
theorem d_T_oddWord_35 : decode b_T_oddWord 35 = .ok (.lreturn, 1) := by decide +kernel
def rm_T_oddWord : Room := { frames := 0, cells := 0, slots := 0, locals := 0 }
def f_T_oddWord_5 (fu : Nat) : Nat → Nat → Int32 → Int32 → Int64 → Int32 → List va_E → Option (Int64 × List va_E)
  | 0, _, _, _, _, _, _ => none
  | n + 1, v0, v1, v2, v3, v5, w => (if v1 ≤ v5 then (some (v3, w)) else ((hp_gr w v0 5 0).bind fun q1 => ((hp_gr w v0 5 1).bind fun q2 => ((hp_ri w q2 v5).bind fun x3 => ((hp_ra w q1 x3).bind fun q4 => ((hp_rl w q4 v2).bind fun y5 => (f_T_oddWord_5 fu n (v0) (v1) (v2) ((v3 ^^^ y5)) ((v5 + (1 : Int32))) w)))))))
def f_T_oddWord (fu : Nat) (v0 : Nat) (v1 : Int32) (v2 : Int32) (w : List va_E) : Option (Int64 × List va_E) := (f_T_oddWord_5 fu fu (v0) (v1) (v2) ((0 : Int64)) ((0 : Int32)) w)
section
variable {p : Program} {l : Launch} {e : Env} {s : State} {m : MethodId} {args : Array Value} {below : List Frame} {meth : Method} {c : Code} {D : va_G} {ca : Nat → Nat} {A : Nat → Prop} {ad : Nat → Nat}
set_option maxRecDepth 100000 in
set_option maxHeartbeats 4000000 in
theorem v_T_oddWord_5 (K : av_K p s m args meth c D cl8 ca A b_T_oddWord 6 R_T WS) (G : av_G NS tabON A s s.heap) (hr : meth.sig.returnType = some .long) (fu : Nat) {r : Int64 × List va_E} : ∀ (n : Nat) (v0 : Nat) (v1 : Int32) (v2 : Int32) (v3 : Int64) (v5 : Int32) (w : List va_E), f_T_oddWord_5 fu n v0 v1 v2 v3 v5 w = some r → av_VL p l e rm_T_oddWord s m args below meth c D cl8 A ad ca 6 r 5 [some (.ref v0), some (.int v1), some (.int v2), some (.long v3), none, some (.int v5)] [] w := by
  intro n
  induction n with
  | zero => intro _ _ _ _ _ _ h; cases h
  | succ n ih =>
    intro v0 v1 v2 v3 v5 w h
    unfold f_T_oddWord_5 at h
    refine av_iload K d_T_oddWord_5 rfl ?_
    refine av_iload_n K d_T_oddWord_7 rfl rfl ?_
    refine av_icmp_ge (tgt := 34) K d_T_oddWord_8 rfl (fun hc => ?_) (fun hc => ?_)
    · rw [if_pos hc] at h
      refine av_lload_n K d_T_oddWord_34 rfl rfl ?_
      obtain rfl := Option.some.inj h
      exact av_lreturn K hr d_T_oddWord_35 rfl
    · rw [if_neg hc] at h
      refine av_lload_n K d_T_oddWord_11 rfl rfl ?_
      refine av_aload_n K d_T_oddWord_12 rfl rfl ?_
      obtain ⟨q1, eq1, h⟩ := hp_bd h
      refine hv_gr K fl_T_11 d_T_oddWord_13 eq1 ?_
      refine av_aload_n K d_T_oddWord_16 rfl rfl ?_
      obtain ⟨q2, eq2, h⟩ := hp_bd h
      refine hv_gr K fl_T_16 d_T_oddWord_17 eq2 ?_
      refine av_iload K d_T_oddWord_20 rfl ?_
      obtain ⟨x3, ex3, h⟩ := hp_bd h
      refine hv_ri K d_T_oddWord_22 ex3 ?_
      obtain ⟨q4, eq4, h⟩ := hp_bd h
      refine hv_ra K d_T_oddWord_23 eq4 ?_
      refine av_iload_n K d_T_oddWord_24 rfl rfl ?_
      obtain ⟨y5, ey5, h⟩ := hp_bd h
      refine hv_rl K d_T_oddWord_25 ey5 ?_
      refine av_lxor K d_T_oddWord_26 ?_
      refine av_lstore_n (L' := [some (.ref v0), some (.int v1), some (.int v2), some (.long (v3 ^^^ y5)), none, some (.int v5)]) K d_T_oddWord_27 rfl (Nat.le_of_ble_eq_true rfl) rfl ?_
      refine av_iinc (v := (v5 + (1 : Int32))) (L' := [some (.ref v0), some (.int v1), some (.int v2), some (.long (v3 ^^^ y5)), none, some (.int (v5 + (1 : Int32)))]) K d_T_oddWord_28 rfl (congrArg (fun z => v5 + z) (show Int32.ofInt 1 = (1 : Int32) by decide)) (Nat.le_of_ble_eq_true rfl) rfl ?_
      refine av_goto (tgt := 5) K d_T_oddWord_31 rfl ?_
      exact ih (v0) (v1) (v2) ((v3 ^^^ y5)) ((v5 + (1 : Int32))) _ h
set_option maxRecDepth 100000 in
set_option maxHeartbeats 4000000 in
theorem v_T_oddWord (K : av_K p s m args meth c D cl8 ca A b_T_oddWord 6 R_T WS) (G : av_G NS tabON A s s.heap) (hr : meth.sig.returnType = some .long) (fu : Nat) {r : Int64 × List va_E} (v0 : Nat) (v1 : Int32) (v2 : Int32) (w : List va_E) (h : f_T_oddWord fu v0 v1 v2 w = some r) : av_VL p l e rm_T_oddWord s m args below meth c D cl8 A ad ca 6 r 0 [some (.ref v0), some (.int v1), some (.int v2), none, none, none] [] w := by
  unfold f_T_oddWord at h
  refine av_lconst (v := (0 : Int64)) K d_T_oddWord_0 (by decide) ?_
  refine av_lstore_n (L' := [some (.ref v0), some (.int v1), some (.int v2), some (.long (0 : Int64)), none, none]) K d_T_oddWord_1 rfl (Nat.le_of_ble_eq_true rfl) rfl ?_
  refine av_iconst (v := (0 : Int32)) K d_T_oddWord_2 (by decide) ?_
  refine av_istore (L' := [some (.ref v0), some (.int v1), some (.int v2), some (.long (0 : Int64)), none, some (.int (0 : Int32))]) K d_T_oddWord_3 (Nat.le_of_ble_eq_true rfl) rfl ?_
  exact v_T_oddWord_5 K G hr fu fu (v0) (v1) (v2) ((0 : Int64)) ((0 : Int32)) _ h
end
set_option maxRecDepth 100000 in
theorem c_T_oddWord {l : Launch} {D : va_G} {ca : Nat → Nat} {tab : Nat → Int64} {fu : Nat} {v0 : Nat} {v1 : Int32} {v2 : Int32} {w : List va_E} {r : Int64 × List va_E} (h : f_T_oddWord fu v0 v1 v2 w = some r) : av_Cl l D cl8 ca NS tabON y_T_oddWord w_T_oddWord rm_T_oddWord [.ref v0, .int v1, .int v2] w (fun v u => (v, u) = r) :=
  av_inL (cc := b_T_oddWord) (nL := 6) (by decide +kernel) rfl (Nat.le_of_ble_eq_true rfl) (fun p e s m args below meth c A ad K G hr => v_T_oddWord K G hr fu v0 v1 v2 w h)

-- FaultTreeDesk$Truth.atLeastWord(III)J
theorem d_T_atLeastWord_0 : decode b_T_atLeastWord 0 = .ok (.lconst 0, 1) := by decide +kernel
theorem d_T_atLeastWord_1 : decode b_T_atLeastWord 1 = .ok (.lstore 4, 2) := by decide +kernel
theorem d_T_atLeastWord_3 : decode b_T_atLeastWord 3 = .ok (.lconst 0, 1) := by decide +kernel
theorem d_T_atLeastWord_4 : decode b_T_atLeastWord 4 = .ok (.lstore 6, 2) := by decide +kernel
theorem d_T_atLeastWord_6 : decode b_T_atLeastWord 6 = .ok (.lconst 0, 1) := by decide +kernel
theorem d_T_atLeastWord_7 : decode b_T_atLeastWord 7 = .ok (.lstore 8, 2) := by decide +kernel
theorem d_T_atLeastWord_9 : decode b_T_atLeastWord 9 = .ok (.lconst 0, 1) := by decide +kernel
theorem d_T_atLeastWord_10 : decode b_T_atLeastWord 10 = .ok (.lstore 10, 2) := by decide +kernel
theorem d_T_atLeastWord_12 : decode b_T_atLeastWord 12 = .ok (.iconst 0, 1) := by decide +kernel
theorem d_T_atLeastWord_13 : decode b_T_atLeastWord 13 = .ok (.istore 12, 2) := by decide +kernel
theorem d_T_atLeastWord_15 : decode b_T_atLeastWord 15 = .ok (.iload 12, 2) := by decide +kernel
theorem d_T_atLeastWord_17 : decode b_T_atLeastWord 17 = .ok (.iload_n 2, 1) := by decide +kernel
theorem d_T_atLeastWord_18 : decode b_T_atLeastWord 18 = .ok (.if_icmp .ge 62, 3) := by decide +kernel
theorem d_T_atLeastWord_21 : decode b_T_atLeastWord 21 = .ok (.aload_n 0, 1) := by decide +kernel
theorem d_T_atLeastWord_22 : decode b_T_atLeastWord 22 = .ok (.getfield 11, 3) := by decide +kernel
theorem d_T_atLeastWord_25 : decode b_T_atLeastWord 25 = .ok (.aload_n 0, 1) := by decide +kernel
theorem d_T_atLeastWord_26 : decode b_T_atLeastWord 26 = .ok (.getfield 16, 3) := by decide +kernel
theorem d_T_atLeastWord_29 : decode b_T_atLeastWord 29 = .ok (.iload 12, 2) := by decide +kernel
theorem d_T_atLeastWord_31 : decode b_T_atLeastWord 31 = .ok (.iaload, 1) := by decide +kernel
theorem d_T_atLeastWord_32 : decode b_T_atLeastWord 32 = .ok (.aaload, 1) := by decide +kernel
theorem d_T_atLeastWord_33 : decode b_T_atLeastWord 33 = .ok (.iload_n 3, 1) := by decide +kernel
theorem d_T_atLeastWord_34 : decode b_T_atLeastWord 34 = .ok (.laload, 1) := by decide +kernel
theorem d_T_atLeastWord_35 : decode b_T_atLeastWord 35 = .ok (.lstore 13, 2) := by decide +kernel
theorem d_T_atLeastWord_37 : decode b_T_atLeastWord 37 = .ok (.lload 10, 2) := by decide +kernel
theorem d_T_atLeastWord_39 : decode b_T_atLeastWord 39 = .ok (.lload 8, 2) := by decide +kernel
theorem d_T_atLeastWord_41 : decode b_T_atLeastWord 41 = .ok (.lload 13, 2) := by decide +kernel
theorem d_T_atLeastWord_43 : decode b_T_atLeastWord 43 = .ok (.land, 1) := by decide +kernel
theorem d_T_atLeastWord_44 : decode b_T_atLeastWord 44 = .ok (.lor, 1) := by decide +kernel
theorem d_T_atLeastWord_45 : decode b_T_atLeastWord 45 = .ok (.lstore 10, 2) := by decide +kernel
theorem d_T_atLeastWord_47 : decode b_T_atLeastWord 47 = .ok (.lload 8, 2) := by decide +kernel
theorem d_T_atLeastWord_49 : decode b_T_atLeastWord 49 = .ok (.lload 6, 2) := by decide +kernel
theorem d_T_atLeastWord_51 : decode b_T_atLeastWord 51 = .ok (.lload 13, 2) := by decide +kernel
theorem d_T_atLeastWord_53 : decode b_T_atLeastWord 53 = .ok (.land, 1) := by decide +kernel
theorem d_T_atLeastWord_54 : decode b_T_atLeastWord 54 = .ok (.lor, 1) := by decide +kernel
theorem d_T_atLeastWord_55 : decode b_T_atLeastWord 55 = .ok (.lstore 8, 2) := by decide +kernel
theorem d_T_atLeastWord_57 : decode b_T_atLeastWord 57 = .ok (.lload 6, 2) := by decide +kernel
theorem d_T_atLeastWord_59 : decode b_T_atLeastWord 59 = .ok (.lload 4, 2) := by decide +kernel
theorem d_T_atLeastWord_61 : decode b_T_atLeastWord 61 = .ok (.lload 13, 2) := by decide +kernel
theorem d_T_atLeastWord_63 : decode b_T_atLeastWord 63 = .ok (.land, 1) := by decide +kernel
theorem d_T_atLeastWord_64 : decode b_T_atLeastWord 64 = .ok (.lor, 1) := by decide +kernel
theorem d_T_atLeastWord_65 : decode b_T_atLeastWord 65 = .ok (.lstore 6, 2) := by decide +kernel
theorem d_T_atLeastWord_67 : decode b_T_atLeastWord 67 = .ok (.lload 4, 2) := by decide +kernel
theorem d_T_atLeastWord_69 : decode b_T_atLeastWord 69 = .ok (.lload 13, 2) := by decide +kernel
theorem d_T_atLeastWord_71 : decode b_T_atLeastWord 71 = .ok (.lor, 1) := by decide +kernel
theorem d_T_atLeastWord_72 : decode b_T_atLeastWord 72 = .ok (.lstore 4, 2) := by decide +kernel
theorem d_T_atLeastWord_74 : decode b_T_atLeastWord 74 = .ok (.iinc 12 1, 3) := by decide +kernel
theorem d_T_atLeastWord_77 : decode b_T_atLeastWord 77 = .ok (.goto (-62), 3) := by decide +kernel
theorem d_T_atLeastWord_80 : decode b_T_atLeastWord 80 = .ok (.iload_n 1, 1) := by decide +kernel
theorem d_T_atLeastWord_81 : decode b_T_atLeastWord 81 = .ok (.tableswitch 44 0 3 #[31, 35, 38, 41], 31) := by decide +kernel
theorem d_T_atLeastWord_112 : decode b_T_atLeastWord 112 = .ok (.ldc2_w 52, 3) := by decide +kernel
theorem d_T_atLeastWord_115 : decode b_T_atLeastWord 115 = .ok (.lreturn, 1) := by decide +kernel
theorem d_T_atLeastWord_116 : decode b_T_atLeastWord 116 = .ok (.lload 4, 2) := by decide +kernel
theorem d_T_atLeastWord_118 : decode b_T_atLeastWord 118 = .ok (.lreturn, 1) := by decide +kernel
theorem d_T_atLeastWord_119 : decode b_T_atLeastWord 119 = .ok (.lload 6, 2) := by decide +kernel
theorem d_T_atLeastWord_121 : decode b_T_atLeastWord 121 = .ok (.lreturn, 1) := by decide +kernel
theorem d_T_atLeastWord_122 : decode b_T_atLeastWord 122 = .ok (.lload 8, 2) := by decide +kernel
theorem d_T_atLeastWord_124 : decode b_T_atLeastWord 124 = .ok (.lreturn, 1) := by decide +kernel
theorem d_T_atLeastWord_125 : decode b_T_atLeastWord 125 = .ok (.lload 10, 2) := by decide +kernel
theorem d_T_atLeastWord_127 : decode b_T_atLeastWord 127 = .ok (.lreturn, 1) := by decide +kernel
def rm_T_atLeastWord : Room := { frames := 0, cells := 0, slots := 0, locals := 0 }
def f_T_atLeastWord_15 (fu : Nat) : Nat → Nat → Int32 → Int32 → Int32 → Int64 → Int64 → Int64 → Int64 → Int32 → List va_E → Option (Int64 × List va_E)
  | 0, _, _, _, _, _, _, _, _, _, _ => none
  | n + 1, v0, v1, v2, v3, v4, v6, v8, v10, v12, w => (if v2 ≤ v12 then (if v1 = (0 : Int32) then (some ((-1 : Int64), w)) else (if v1 = (1 : Int32) then (some (v4, w)) else (if v1 = (2 : Int32) then (some (v6, w)) else (if v1 = (3 : Int32) then (some (v8, w)) else (some (v10, w)))))) else ((hp_gr w v0 5 0).bind fun q1 => ((hp_gr w v0 5 1).bind fun q2 => ((hp_ri w q2 v12).bind fun x3 => ((hp_ra w q1 x3).bind fun q4 => ((hp_rl w q4 v3).bind fun y5 => (f_T_atLeastWord_15 fu n (v0) (v1) (v2) (v3) ((v4 ||| y5)) ((v6 ||| (v4 &&& y5))) ((v8 ||| (v6 &&& y5))) ((v10 ||| (v8 &&& y5))) ((v12 + (1 : Int32))) w)))))))
def f_T_atLeastWord (fu : Nat) (v0 : Nat) (v1 : Int32) (v2 : Int32) (v3 : Int32) (w : List va_E) : Option (Int64 × List va_E) := (f_T_atLeastWord_15 fu fu (v0) (v1) (v2) (v3) ((0 : Int64)) ((0 : Int64)) ((0 : Int64)) ((0 : Int64)) ((0 : Int32)) w)
section
variable {p : Program} {l : Launch} {e : Env} {s : State} {m : MethodId} {args : Array Value} {below : List Frame} {meth : Method} {c : Code} {D : va_G} {ca : Nat → Nat} {A : Nat → Prop} {ad : Nat → Nat}
set_option maxRecDepth 100000 in
set_option maxHeartbeats 4000000 in
theorem v_T_atLeastWord_15 (K : av_K p s m args meth c D cl8 ca A b_T_atLeastWord 15 R_T WS) (G : av_G NS tabON A s s.heap) (hr : meth.sig.returnType = some .long) (fu : Nat) {r : Int64 × List va_E} : ∀ (n : Nat) (v0 : Nat) (v1 : Int32) (v2 : Int32) (v3 : Int32) (v4 : Int64) (v6 : Int64) (v8 : Int64) (v10 : Int64) (v12 : Int32) (w : List va_E), f_T_atLeastWord_15 fu n v0 v1 v2 v3 v4 v6 v8 v10 v12 w = some r → av_VL p l e rm_T_atLeastWord s m args below meth c D cl8 A ad ca 15 r 15 [some (.ref v0), some (.int v1), some (.int v2), some (.int v3), some (.long v4), none, some (.long v6), none, some (.long v8), none, some (.long v10), none, some (.int v12), none, none] [] w := by
  intro n
  induction n with
  | zero => intro _ _ _ _ _ _ _ _ _ _ h; cases h
  | succ n ih =>
    intro v0 v1 v2 v3 v4 v6 v8 v10 v12 w h
    unfold f_T_atLeastWord_15 at h
    refine av_iload K d_T_atLeastWord_15 rfl ?_
    refine av_iload_n K d_T_atLeastWord_17 rfl rfl ?_
    refine av_icmp_ge (tgt := 80) K d_T_atLeastWord_18 rfl (fun hc => ?_) (fun hc => ?_)
    · rw [if_pos hc] at h
      refine av_iload_n K d_T_atLeastWord_80 rfl rfl ?_
      by_cases hs81_0 : v1 = (0 : Int32)
      · rw [if_pos hs81_0] at h
        refine av_tswI (tgt := 112) K d_T_atLeastWord_81 (by rw [hs81_0]; decide) (by rw [hs81_0]; decide) (by rw [hs81_0]; rfl) rfl ?_
        refine av_ldc2 K (cl_T_52) d_T_atLeastWord_112 ?_
        obtain rfl := Option.some.inj h
        exact av_lreturn K hr d_T_atLeastWord_115 rfl
      · rw [if_neg hs81_0] at h
        by_cases hs81_1 : v1 = (1 : Int32)
        · rw [if_pos hs81_1] at h
          refine av_tswI (tgt := 116) K d_T_atLeastWord_81 (by rw [hs81_1]; decide) (by rw [hs81_1]; decide) (by rw [hs81_1]; rfl) rfl ?_
          refine av_lload K d_T_atLeastWord_116 rfl ?_
          obtain rfl := Option.some.inj h
          exact av_lreturn K hr d_T_atLeastWord_118 rfl
        · rw [if_neg hs81_1] at h
          by_cases hs81_2 : v1 = (2 : Int32)
          · rw [if_pos hs81_2] at h
            refine av_tswI (tgt := 119) K d_T_atLeastWord_81 (by rw [hs81_2]; decide) (by rw [hs81_2]; decide) (by rw [hs81_2]; rfl) rfl ?_
            refine av_lload K d_T_atLeastWord_119 rfl ?_
            obtain rfl := Option.some.inj h
            exact av_lreturn K hr d_T_atLeastWord_121 rfl
          · rw [if_neg hs81_2] at h
            by_cases hs81_3 : v1 = (3 : Int32)
            · rw [if_pos hs81_3] at h
              refine av_tswI (tgt := 122) K d_T_atLeastWord_81 (by rw [hs81_3]; decide) (by rw [hs81_3]; decide) (by rw [hs81_3]; rfl) rfl ?_
              refine av_lload K d_T_atLeastWord_122 rfl ?_
              obtain rfl := Option.some.inj h
              exact av_lreturn K hr d_T_atLeastWord_124 rfl
            · rw [if_neg hs81_3] at h
              refine av_tswO (tgt := 125) K d_T_atLeastWord_81 (tsw_4 hs81_0 hs81_1 hs81_2 hs81_3) rfl ?_
              refine av_lload K d_T_atLeastWord_125 rfl ?_
              obtain rfl := Option.some.inj h
              exact av_lreturn K hr d_T_atLeastWord_127 rfl
    · rw [if_neg hc] at h
      refine av_aload_n K d_T_atLeastWord_21 rfl rfl ?_
      obtain ⟨q1, eq1, h⟩ := hp_bd h
      refine hv_gr K fl_T_11 d_T_atLeastWord_22 eq1 ?_
      refine av_aload_n K d_T_atLeastWord_25 rfl rfl ?_
      obtain ⟨q2, eq2, h⟩ := hp_bd h
      refine hv_gr K fl_T_16 d_T_atLeastWord_26 eq2 ?_
      refine av_iload K d_T_atLeastWord_29 rfl ?_
      obtain ⟨x3, ex3, h⟩ := hp_bd h
      refine hv_ri K d_T_atLeastWord_31 ex3 ?_
      obtain ⟨q4, eq4, h⟩ := hp_bd h
      refine hv_ra K d_T_atLeastWord_32 eq4 ?_
      refine av_iload_n K d_T_atLeastWord_33 rfl rfl ?_
      obtain ⟨y5, ey5, h⟩ := hp_bd h
      refine hv_rl K d_T_atLeastWord_34 ey5 ?_
      refine av_lstore (L' := [some (.ref v0), some (.int v1), some (.int v2), some (.int v3), some (.long v4), none, some (.long v6), none, some (.long v8), none, some (.long v10), none, some (.int v12), some (.long y5), none]) K d_T_atLeastWord_35 (Nat.le_of_ble_eq_true rfl) rfl ?_
      refine av_lload K d_T_atLeastWord_37 rfl ?_
      refine av_lload K d_T_atLeastWord_39 rfl ?_
      refine av_lload K d_T_atLeastWord_41 rfl ?_
      refine av_land K d_T_atLeastWord_43 ?_
      refine av_lor K d_T_atLeastWord_44 ?_
      refine av_lstore (L' := [some (.ref v0), some (.int v1), some (.int v2), some (.int v3), some (.long v4), none, some (.long v6), none, some (.long v8), none, some (.long (v10 ||| (v8 &&& y5))), none, some (.int v12), some (.long y5), none]) K d_T_atLeastWord_45 (Nat.le_of_ble_eq_true rfl) rfl ?_
      refine av_lload K d_T_atLeastWord_47 rfl ?_
      refine av_lload K d_T_atLeastWord_49 rfl ?_
      refine av_lload K d_T_atLeastWord_51 rfl ?_
      refine av_land K d_T_atLeastWord_53 ?_
      refine av_lor K d_T_atLeastWord_54 ?_
      refine av_lstore (L' := [some (.ref v0), some (.int v1), some (.int v2), some (.int v3), some (.long v4), none, some (.long v6), none, some (.long (v8 ||| (v6 &&& y5))), none, some (.long (v10 ||| (v8 &&& y5))), none, some (.int v12), some (.long y5), none]) K d_T_atLeastWord_55 (Nat.le_of_ble_eq_true rfl) rfl ?_
      refine av_lload K d_T_atLeastWord_57 rfl ?_
      refine av_lload K d_T_atLeastWord_59 rfl ?_
      refine av_lload K d_T_atLeastWord_61 rfl ?_
      refine av_land K d_T_atLeastWord_63 ?_
      refine av_lor K d_T_atLeastWord_64 ?_
      refine av_lstore (L' := [some (.ref v0), some (.int v1), some (.int v2), some (.int v3), some (.long v4), none, some (.long (v6 ||| (v4 &&& y5))), none, some (.long (v8 ||| (v6 &&& y5))), none, some (.long (v10 ||| (v8 &&& y5))), none, some (.int v12), some (.long y5), none]) K d_T_atLeastWord_65 (Nat.le_of_ble_eq_true rfl) rfl ?_
      refine av_lload K d_T_atLeastWord_67 rfl ?_
      refine av_lload K d_T_atLeastWord_69 rfl ?_
      refine av_lor K d_T_atLeastWord_71 ?_
      refine av_lstore (L' := [some (.ref v0), some (.int v1), some (.int v2), some (.int v3), some (.long (v4 ||| y5)), none, some (.long (v6 ||| (v4 &&& y5))), none, some (.long (v8 ||| (v6 &&& y5))), none, some (.long (v10 ||| (v8 &&& y5))), none, some (.int v12), some (.long y5), none]) K d_T_atLeastWord_72 (Nat.le_of_ble_eq_true rfl) rfl ?_
      refine av_iinc (v := (v12 + (1 : Int32))) (L' := [some (.ref v0), some (.int v1), some (.int v2), some (.int v3), some (.long (v4 ||| y5)), none, some (.long (v6 ||| (v4 &&& y5))), none, some (.long (v8 ||| (v6 &&& y5))), none, some (.long (v10 ||| (v8 &&& y5))), none, some (.int (v12 + (1 : Int32))), some (.long y5), none]) K d_T_atLeastWord_74 rfl (congrArg (fun z => v12 + z) (show Int32.ofInt 1 = (1 : Int32) by decide)) (Nat.le_of_ble_eq_true rfl) rfl ?_
      refine av_goto (tgt := 15) K d_T_atLeastWord_77 rfl ?_
      refine hv_fg (L' := [some (.ref v0), some (.int v1), some (.int v2), some (.int v3), some (.long (v4 ||| y5)), none, some (.long (v6 ||| (v4 &&& y5))), none, some (.long (v8 ||| (v6 &&& y5))), none, some (.long (v10 ||| (v8 &&& y5))), none, some (.int (v12 + (1 : Int32))), none, none]) [13] rfl ?_
      exact ih (v0) (v1) (v2) (v3) ((v4 ||| y5)) ((v6 ||| (v4 &&& y5))) ((v8 ||| (v6 &&& y5))) ((v10 ||| (v8 &&& y5))) ((v12 + (1 : Int32))) _ h
set_option maxRecDepth 100000 in
set_option maxHeartbeats 4000000 in
theorem v_T_atLeastWord (K : av_K p s m args meth c D cl8 ca A b_T_atLeastWord 15 R_T WS) (G : av_G NS tabON A s s.heap) (hr : meth.sig.returnType = some .long) (fu : Nat) {r : Int64 × List va_E} (v0 : Nat) (v1 : Int32) (v2 : Int32) (v3 : Int32) (w : List va_E) (h : f_T_atLeastWord fu v0 v1 v2 v3 w = some r) : av_VL p l e rm_T_atLeastWord s m args below meth c D cl8 A ad ca 15 r 0 [some (.ref v0), some (.int v1), some (.int v2), some (.int v3), none, none, none, none, none, none, none, none, none, none, none] [] w := by
  unfold f_T_atLeastWord at h
  refine av_lconst (v := (0 : Int64)) K d_T_atLeastWord_0 (by decide) ?_
  refine av_lstore (L' := [some (.ref v0), some (.int v1), some (.int v2), some (.int v3), some (.long (0 : Int64)), none, none, none, none, none, none, none, none, none, none]) K d_T_atLeastWord_1 (Nat.le_of_ble_eq_true rfl) rfl ?_
  refine av_lconst (v := (0 : Int64)) K d_T_atLeastWord_3 (by decide) ?_
  refine av_lstore (L' := [some (.ref v0), some (.int v1), some (.int v2), some (.int v3), some (.long (0 : Int64)), none, some (.long (0 : Int64)), none, none, none, none, none, none, none, none]) K d_T_atLeastWord_4 (Nat.le_of_ble_eq_true rfl) rfl ?_
  refine av_lconst (v := (0 : Int64)) K d_T_atLeastWord_6 (by decide) ?_
  refine av_lstore (L' := [some (.ref v0), some (.int v1), some (.int v2), some (.int v3), some (.long (0 : Int64)), none, some (.long (0 : Int64)), none, some (.long (0 : Int64)), none, none, none, none, none, none]) K d_T_atLeastWord_7 (Nat.le_of_ble_eq_true rfl) rfl ?_
  refine av_lconst (v := (0 : Int64)) K d_T_atLeastWord_9 (by decide) ?_
  refine av_lstore (L' := [some (.ref v0), some (.int v1), some (.int v2), some (.int v3), some (.long (0 : Int64)), none, some (.long (0 : Int64)), none, some (.long (0 : Int64)), none, some (.long (0 : Int64)), none, none, none, none]) K d_T_atLeastWord_10 (Nat.le_of_ble_eq_true rfl) rfl ?_
  refine av_iconst (v := (0 : Int32)) K d_T_atLeastWord_12 (by decide) ?_
  refine av_istore (L' := [some (.ref v0), some (.int v1), some (.int v2), some (.int v3), some (.long (0 : Int64)), none, some (.long (0 : Int64)), none, some (.long (0 : Int64)), none, some (.long (0 : Int64)), none, some (.int (0 : Int32)), none, none]) K d_T_atLeastWord_13 (Nat.le_of_ble_eq_true rfl) rfl ?_
  exact v_T_atLeastWord_15 K G hr fu fu (v0) (v1) (v2) (v3) ((0 : Int64)) ((0 : Int64)) ((0 : Int64)) ((0 : Int64)) ((0 : Int32)) _ h
end
set_option maxRecDepth 100000 in
theorem c_T_atLeastWord {l : Launch} {D : va_G} {ca : Nat → Nat} {tab : Nat → Int64} {fu : Nat} {v0 : Nat} {v1 : Int32} {v2 : Int32} {v3 : Int32} {w : List va_E} {r : Int64 × List va_E} (h : f_T_atLeastWord fu v0 v1 v2 v3 w = some r) : av_Cl l D cl8 ca NS tabON y_T_atLeastWord w_T_atLeastWord rm_T_atLeastWord [.ref v0, .int v1, .int v2, .int v3] w (fun v u => (v, u) = r) :=
  av_inL (cc := b_T_atLeastWord) (nL := 15) (by decide +kernel) rfl (Nat.le_of_ble_eq_true rfl) (fun p e s m args below meth c A ad K G hr => v_T_atLeastWord K G hr fu v0 v1 v2 v3 w h)

-- FaultTreeDesk$Truth.fillGate(LFaultTreeDesk$Gates;I)V
theorem d_T_fillGate_0 : decode b_T_fillGate 0 = .ok (.aload_n 0, 1) := by decide +kernel
theorem d_T_fillGate_1 : decode b_T_fillGate 1 = .ok (.aload_n 1, 1) := by decide +kernel
theorem d_T_fillGate_2 : decode b_T_fillGate 2 = .ok (.getfield 72, 3) := by decide +kernel
theorem d_T_fillGate_5 : decode b_T_fillGate 5 = .ok (.iload_n 2, 1) := by decide +kernel
theorem d_T_fillGate_6 : decode b_T_fillGate 6 = .ok (.iaload, 1) := by decide +kernel
theorem d_T_fillGate_7 : decode b_T_fillGate 7 = .ok (.invokevirtual 75, 3) := by decide +kernel
theorem d_T_fillGate_10 : decode b_T_fillGate 10 = .ok (.istore_n 3, 1) := by decide +kernel
theorem d_T_fillGate_11 : decode b_T_fillGate 11 = .ok (.aload_n 1, 1) := by decide +kernel
theorem d_T_fillGate_12 : decode b_T_fillGate 12 = .ok (.getfield 78, 3) := by decide +kernel
theorem d_T_fillGate_15 : decode b_T_fillGate 15 = .ok (.iload_n 2, 1) := by decide +kernel
theorem d_T_fillGate_16 : decode b_T_fillGate 16 = .ok (.iaload, 1) := by decide +kernel
theorem d_T_fillGate_17 : decode b_T_fillGate 17 = .ok (.istore 4, 2) := by decide +kernel
theorem d_T_fillGate_19 : decode b_T_fillGate 19 = .ok (.aload_n 0, 1) := by decide +kernel
theorem d_T_fillGate_20 : decode b_T_fillGate 20 = .ok (.getfield 11, 3) := by decide +kernel
theorem d_T_fillGate_23 : decode b_T_fillGate 23 = .ok (.bipush 16, 2) := by decide +kernel
theorem d_T_fillGate_25 : decode b_T_fillGate 25 = .ok (.iload_n 2, 1) := by decide +kernel
theorem d_T_fillGate_26 : decode b_T_fillGate 26 = .ok (.iadd, 1) := by decide +kernel
theorem d_T_fillGate_27 : decode b_T_fillGate 27 = .ok (.aaload, 1) := by decide +kernel
theorem d_T_fillGate_28 : decode b_T_fillGate 28 = .ok (.astore 5, 2) := by decide +kernel
theorem d_T_fillGate_30 : decode b_T_fillGate 30 = .ok (.iconst 0, 1) := by decide +kernel
theorem d_T_fillGate_31 : decode b_T_fillGate 31 = .ok (.istore 6, 2) := by decide +kernel
theorem d_T_fillGate_33 : decode b_T_fillGate 33 = .ok (.iload 6, 2) := by decide +kernel
theorem d_T_fillGate_35 : decode b_T_fillGate 35 = .ok (.aload_n 0, 1) := by decide +kernel
theorem d_T_fillGate_36 : decode b_T_fillGate 36 = .ok (.getfield 24, 3) := by decide +kernel
theorem d_T_fillGate_39 : decode b_T_fillGate 39 = .ok (.if_icmp .ge 97, 3) := by decide +kernel
theorem d_T_fillGate_42 : decode b_T_fillGate 42 = .ok (.iload 4, 2) := by decide +kernel
theorem d_T_fillGate_44 : decode b_T_fillGate 44 = .ok (.iconst 3, 1) := by decide +kernel
theorem d_T_fillGate_45 : decode b_T_fillGate 45 = .ok (.if_icmp .ne 18, 3) := by decide +kernel
theorem d_T_fillGate_48 : decode b_T_fillGate 48 = .ok (.aload 5, 2) := by decide +kernel
theorem d_T_fillGate_50 : decode b_T_fillGate 50 = .ok (.iload 6, 2) := by decide +kernel
theorem d_T_fillGate_52 : decode b_T_fillGate 52 = .ok (.aload_n 0, 1) := by decide +kernel
theorem d_T_fillGate_53 : decode b_T_fillGate 53 = .ok (.iload_n 3, 1) := by decide +kernel
theorem d_T_fillGate_54 : decode b_T_fillGate 54 = .ok (.iload 6, 2) := by decide +kernel
theorem d_T_fillGate_56 : decode b_T_fillGate 56 = .ok (.invokevirtual 81, 3) := by decide +kernel
theorem d_T_fillGate_59 : decode b_T_fillGate 59 = .ok (.lastore, 1) := by decide +kernel
theorem d_T_fillGate_60 : decode b_T_fillGate 60 = .ok (.goto 70, 3) := by decide +kernel
theorem d_T_fillGate_63 : decode b_T_fillGate 63 = .ok (.iload 4, 2) := by decide +kernel
theorem d_T_fillGate_65 : decode b_T_fillGate 65 = .ok (.iconst 4, 1) := by decide +kernel
theorem d_T_fillGate_66 : decode b_T_fillGate 66 = .ok (.if_icmp .ne 23, 3) := by decide +kernel
theorem d_T_fillGate_69 : decode b_T_fillGate 69 = .ok (.aload 5, 2) := by decide +kernel
theorem d_T_fillGate_71 : decode b_T_fillGate 71 = .ok (.iload 6, 2) := by decide +kernel
theorem d_T_fillGate_73 : decode b_T_fillGate 73 = .ok (.aload_n 0, 1) := by decide +kernel
theorem d_T_fillGate_74 : decode b_T_fillGate 74 = .ok (.iconst 1, 1) := by decide +kernel
theorem d_T_fillGate_75 : decode b_T_fillGate 75 = .ok (.iload_n 3, 1) := by decide +kernel
theorem d_T_fillGate_76 : decode b_T_fillGate 76 = .ok (.iload 6, 2) := by decide +kernel
theorem d_T_fillGate_78 : decode b_T_fillGate 78 = .ok (.invokevirtual 85, 3) := by decide +kernel
theorem d_T_fillGate_81 : decode b_T_fillGate 81 = .ok (.ldc2_w 52, 3) := by decide +kernel
theorem d_T_fillGate_84 : decode b_T_fillGate 84 = .ok (.lxor, 1) := by decide +kernel
theorem d_T_fillGate_85 : decode b_T_fillGate 85 = .ok (.lastore, 1) := by decide +kernel
theorem d_T_fillGate_86 : decode b_T_fillGate 86 = .ok (.goto 44, 3) := by decide +kernel
theorem d_T_fillGate_89 : decode b_T_fillGate 89 = .ok (.iload 4, 2) := by decide +kernel
theorem d_T_fillGate_91 : decode b_T_fillGate 91 = .ok (.ifCond .ne 7, 3) := by decide +kernel
theorem d_T_fillGate_94 : decode b_T_fillGate 94 = .ok (.iload_n 3, 1) := by decide +kernel
theorem d_T_fillGate_95 : decode b_T_fillGate 95 = .ok (.goto 19, 3) := by decide +kernel
theorem d_T_fillGate_98 : decode b_T_fillGate 98 = .ok (.iload 4, 2) := by decide +kernel
theorem d_T_fillGate_100 : decode b_T_fillGate 100 = .ok (.iconst 1, 1) := by decide +kernel
theorem d_T_fillGate_101 : decode b_T_fillGate 101 = .ok (.if_icmp .ne 7, 3) := by decide +kernel
theorem d_T_fillGate_104 : decode b_T_fillGate 104 = .ok (.iconst 1, 1) := by decide +kernel
theorem d_T_fillGate_105 : decode b_T_fillGate 105 = .ok (.goto 9, 3) := by decide +kernel
theorem d_T_fillGate_108 : decode b_T_fillGate 108 = .ok (.aload_n 1, 1) := by decide +kernel
theorem d_T_fillGate_109 : decode b_T_fillGate 109 = .ok (.getfield 89, 3) := by decide +kernel
theorem d_T_fillGate_112 : decode b_T_fillGate 112 = .ok (.iload_n 2, 1) := by decide +kernel
theorem d_T_fillGate_113 : decode b_T_fillGate 113 = .ok (.iaload, 1) := by decide +kernel
theorem d_T_fillGate_114 : decode b_T_fillGate 114 = .ok (.istore 7, 2) := by decide +kernel
theorem d_T_fillGate_116 : decode b_T_fillGate 116 = .ok (.aload 5, 2) := by decide +kernel
theorem d_T_fillGate_118 : decode b_T_fillGate 118 = .ok (.iload 6, 2) := by decide +kernel
theorem d_T_fillGate_120 : decode b_T_fillGate 120 = .ok (.aload_n 0, 1) := by decide +kernel
theorem d_T_fillGate_121 : decode b_T_fillGate 121 = .ok (.iload 7, 2) := by decide +kernel
theorem d_T_fillGate_123 : decode b_T_fillGate 123 = .ok (.iload_n 3, 1) := by decide +kernel
theorem d_T_fillGate_124 : decode b_T_fillGate 124 = .ok (.iload 6, 2) := by decide +kernel
theorem d_T_fillGate_126 : decode b_T_fillGate 126 = .ok (.invokevirtual 85, 3) := by decide +kernel
theorem d_T_fillGate_129 : decode b_T_fillGate 129 = .ok (.lastore, 1) := by decide +kernel
theorem d_T_fillGate_130 : decode b_T_fillGate 130 = .ok (.iinc 6 1, 3) := by decide +kernel
theorem d_T_fillGate_133 : decode b_T_fillGate 133 = .ok (.goto (-100), 3) := by decide +kernel
theorem d_T_fillGate_136 : decode b_T_fillGate 136 = .ok (.return_, 1) := by decide +kernel
def rm_T_fillGate : Room := { frames := 1, cells := 0, slots := 0, locals := 34 }
def f_T_fillGate_130 (fu : Nat) (k33 : Nat → Nat → Int32 → Int32 → Int32 → Nat → Int32 → List va_E → Option (List va_E)) (v0 : Nat) (v1 : Nat) (v2 : Int32) (v3 : Int32) (v4 : Int32) (v5 : Nat) (v6 : Int32) (w : List va_E) : Option (List va_E) := (k33 (v0) (v1) (v2) (v3) (v4) (v5) ((v6 + (1 : Int32))) w)
def f_T_fillGate_114 (fu : Nat) (k33 : Nat → Nat → Int32 → Int32 → Int32 → Nat → Int32 → List va_E → Option (List va_E)) (v0 : Nat) (v1 : Nat) (v2 : Int32) (v3 : Int32) (v4 : Int32) (v5 : Nat) (v6 : Int32) (s0 : Int32) (w : List va_E) : Option (List va_E) := ((hp_is w v0 5).bind fun _ => ((f_T_atLeastWord fu v0 s0 v3 v6 w).bind fun r1 => ((hp_wl r1.2 v5 v6 r1.1).bind fun w2 => (f_T_fillGate_130 fu k33 (v0) (v1) (v2) (v3) (v4) (v5) (v6) w2))))
def f_T_fillGate_33 (fu : Nat) : Nat → Nat → Nat → Int32 → Int32 → Int32 → Nat → Int32 → List va_E → Option (List va_E)
  | 0, _, _, _, _, _, _, _, _ => none
  | n + 1, v0, v1, v2, v3, v4, v5, v6, w => ((hp_gi w v0 5 3).bind fun x1 => (if x1 ≤ v6 then (some w) else (if v4 = (3 : Int32) then ((hp_is w v0 5).bind fun _ => ((f_T_oddWord fu v0 v3 v6 w).bind fun r6 => ((hp_wl r6.2 v5 v6 r6.1).bind fun w7 => (f_T_fillGate_130 fu (f_T_fillGate_33 fu n) (v0) (v1) (v2) (v3) (v4) (v5) (v6) w7)))) else (if v4 = (4 : Int32) then ((hp_is w v0 5).bind fun _ => ((f_T_atLeastWord fu v0 (1 : Int32) v3 v6 w).bind fun r4 => ((hp_wl r4.2 v5 v6 (r4.1 ^^^ (-1 : Int64))).bind fun w5 => (f_T_fillGate_130 fu (f_T_fillGate_33 fu n) (v0) (v1) (v2) (v3) (v4) (v5) (v6) w5)))) else (if v4 = 0 then (f_T_fillGate_114 fu (f_T_fillGate_33 fu n) (v0) (v1) (v2) (v3) (v4) (v5) (v6) (v3) w) else (if v4 = (1 : Int32) then (f_T_fillGate_114 fu (f_T_fillGate_33 fu n) (v0) (v1) (v2) (v3) (v4) (v5) (v6) ((1 : Int32)) w) else ((hp_gr w v1 2 1).bind fun q2 => ((hp_ri w q2 v2).bind fun x3 => (f_T_fillGate_114 fu (f_T_fillGate_33 fu n) (v0) (v1) (v2) (v3) (v4) (v5) (v6) (x3) w)))))))))
def f_T_fillGate (fu : Nat) (v0 : Nat) (v1 : Nat) (v2 : Int32) (w : List va_E) : Option (List va_E) := ((hp_gr w v1 2 2).bind fun q1 => ((hp_ri w q1 v2).bind fun x2 => ((hp_is w v0 5).bind fun _ => ((f_T_listInputs fu v0 x2 w).bind fun r3 => ((hp_gr r3.2 v1 2 0).bind fun q4 => ((hp_ri r3.2 q4 v2).bind fun x5 => ((hp_gr r3.2 v0 5 0).bind fun q6 => ((hp_ra r3.2 q6 ((16 : Int32) + v2)).bind fun q7 => (f_T_fillGate_33 fu fu (v0) (v1) (v2) (r3.1) (x5) (q7) ((0 : Int32)) r3.2)))))))))
section
variable {p : Program} {l : Launch} {e : Env} {s : State} {m : MethodId} {args : Array Value} {below : List Frame} {meth : Method} {c : Code} {D : va_G} {ca : Nat → Nat} {A : Nat → Prop} {ad : Nat → Nat}
set_option maxRecDepth 100000 in
set_option maxHeartbeats 4000000 in
theorem v_T_fillGate_130 (K : av_K p s m args meth c D cl8 ca A b_T_fillGate 8 R_T WS) (G : av_G NS tabON A s s.heap) (hr : meth.sig.returnType = none) (fu : Nat) {r : List va_E} (k33 : Nat → Nat → Int32 → Int32 → Int32 → Nat → Int32 → List va_E → Option (List va_E)) (hk33 : ∀ (v0 : Nat) (v1 : Nat) (v2 : Int32) (v3 : Int32) (v4 : Int32) (v5 : Nat) (v6 : Int32) (w : List va_E), k33 v0 v1 v2 v3 v4 v5 v6 w = some r → av_VV p l e rm_T_fillGate s m args below meth c D cl8 A ad ca 8 r 33 [some (.ref v0), some (.ref v1), some (.int v2), some (.int v3), some (.int v4), some (.ref v5), some (.int v6), none] [] w) (v0 : Nat) (v1 : Nat) (v2 : Int32) (v3 : Int32) (v4 : Int32) (v5 : Nat) (v6 : Int32) (w : List va_E) (h : f_T_fillGate_130 fu k33 v0 v1 v2 v3 v4 v5 v6 w = some r) : av_VV p l e rm_T_fillGate s m args below meth c D cl8 A ad ca 8 r 130 [some (.ref v0), some (.ref v1), some (.int v2), some (.int v3), some (.int v4), some (.ref v5), some (.int v6), none] [] w := by
  unfold f_T_fillGate_130 at h
  refine av_iinc (v := (v6 + (1 : Int32))) (L' := [some (.ref v0), some (.ref v1), some (.int v2), some (.int v3), some (.int v4), some (.ref v5), some (.int (v6 + (1 : Int32))), none]) K d_T_fillGate_130 rfl (congrArg (fun z => v6 + z) (show Int32.ofInt 1 = (1 : Int32) by decide)) (Nat.le_of_ble_eq_true rfl) rfl ?_
  refine av_goto (tgt := 33) K d_T_fillGate_133 rfl ?_
  exact hk33 (v0) (v1) (v2) (v3) (v4) (v5) ((v6 + (1 : Int32))) _ h
set_option maxRecDepth 100000 in
set_option maxHeartbeats 4000000 in
theorem v_T_fillGate_114 (K : av_K p s m args meth c D cl8 ca A b_T_fillGate 8 R_T WS) (G : av_G NS tabON A s s.heap) (hr : meth.sig.returnType = none) (fu : Nat) {r : List va_E} (k33 : Nat → Nat → Int32 → Int32 → Int32 → Nat → Int32 → List va_E → Option (List va_E)) (hk33 : ∀ (v0 : Nat) (v1 : Nat) (v2 : Int32) (v3 : Int32) (v4 : Int32) (v5 : Nat) (v6 : Int32) (w : List va_E), k33 v0 v1 v2 v3 v4 v5 v6 w = some r → av_VV p l e rm_T_fillGate s m args below meth c D cl8 A ad ca 8 r 33 [some (.ref v0), some (.ref v1), some (.int v2), some (.int v3), some (.int v4), some (.ref v5), some (.int v6), none] [] w) (v0 : Nat) (v1 : Nat) (v2 : Int32) (v3 : Int32) (v4 : Int32) (v5 : Nat) (v6 : Int32) (s0 : Int32) (w : List va_E) (h : f_T_fillGate_114 fu k33 v0 v1 v2 v3 v4 v5 v6 s0 w = some r) : av_VV p l e rm_T_fillGate s m args below meth c D cl8 A ad ca 8 r 114 [some (.ref v0), some (.ref v1), some (.int v2), some (.int v3), some (.int v4), some (.ref v5), some (.int v6), none] [.int s0] w := by
  unfold f_T_fillGate_114 at h
  refine av_istore (L' := [some (.ref v0), some (.ref v1), some (.int v2), some (.int v3), some (.int v4), some (.ref v5), some (.int v6), some (.int s0)]) K d_T_fillGate_114 (Nat.le_of_ble_eq_true rfl) rfl ?_
  refine av_aload K d_T_fillGate_116 rfl ?_
  refine av_iload K d_T_fillGate_118 rfl ?_
  refine av_aload_n K d_T_fillGate_120 rfl rfl ?_
  refine av_iload K d_T_fillGate_121 rfl ?_
  refine av_iload_n K d_T_fillGate_123 rfl rfl ?_
  refine av_iload K d_T_fillGate_124 rfl ?_
  obtain ⟨_, eo126, h⟩ := hp_bd h
  obtain ⟨r1, er1, h⟩ := hp_bd h
  obtain ⟨fs126, ho126⟩ := hp_is_of eo126
  refine av_cVl K G (c_T_atLeastWord (tab := tabON) er1) (cwV 3 K.2.2.2.2.1 (gV ml_T_85 im_T_atLeastWord se_T_atLeastWord in_T co_T_atLeastWord) rfl rfl rfl cd_T_atLeastWord ⟨Nat.le_of_ble_eq_true rfl, Nat.le_of_ble_eq_true rfl⟩) rfl ho126 rfl rfl (Nat.le_of_ble_eq_true rfl) d_T_fillGate_126 ⟨Nat.zero_le _, Nat.zero_le _⟩ (fun a9 u9 h9 => ?_)
  obtain ⟨rfl, rfl⟩ : a9 = r1.1 ∧ u9 = r1.2 := ⟨congrArg Prod.fst h9, congrArg Prod.snd h9⟩
  obtain ⟨w2, ew2, h⟩ := hp_bd h
  refine hv_wl K d_T_fillGate_129 ew2 ?_
  refine hv_fg (L' := [some (.ref v0), some (.ref v1), some (.int v2), some (.int v3), some (.int v4), some (.ref v5), some (.int v6), none]) [7] rfl ?_
  exact v_T_fillGate_130 K G hr fu k33 hk33 (v0) (v1) (v2) (v3) (v4) (v5) (v6) _ h
set_option maxRecDepth 100000 in
set_option maxHeartbeats 4000000 in
theorem v_T_fillGate_33 (K : av_K p s m args meth c D cl8 ca A b_T_fillGate 8 R_T WS) (G : av_G NS tabON A s s.heap) (hr : meth.sig.returnType = none) (fu : Nat) {r : List va_E} : ∀ (n : Nat) (v0 : Nat) (v1 : Nat) (v2 : Int32) (v3 : Int32) (v4 : Int32) (v5 : Nat) (v6 : Int32) (w : List va_E), f_T_fillGate_33 fu n v0 v1 v2 v3 v4 v5 v6 w = some r → av_VV p l e rm_T_fillGate s m args below meth c D cl8 A ad ca 8 r 33 [some (.ref v0), some (.ref v1), some (.int v2), some (.int v3), some (.int v4), some (.ref v5), some (.int v6), none] [] w := by
  intro n
  induction n with
  | zero => intro _ _ _ _ _ _ _ _ h; cases h
  | succ n ih =>
    intro v0 v1 v2 v3 v4 v5 v6 w h
    unfold f_T_fillGate_33 at h
    refine av_iload K d_T_fillGate_33 rfl ?_
    refine av_aload_n K d_T_fillGate_35 rfl rfl ?_
    obtain ⟨x1, ex1, h⟩ := hp_bd h
    refine hv_gi K fl_T_24 d_T_fillGate_36 ex1 ?_
    refine av_icmp_ge (tgt := 136) K d_T_fillGate_39 rfl (fun hc => ?_) (fun hc => ?_)
    · rw [if_pos hc] at h
      obtain rfl := Option.some.inj h
      exact av_return K hr d_T_fillGate_136 rfl
    · rw [if_neg hc] at h
      refine av_iload K d_T_fillGate_42 rfl ?_
      refine av_iconst (v := (3 : Int32)) K d_T_fillGate_44 (by decide) ?_
      refine av_icmp_ne (tgt := 63) K d_T_fillGate_45 rfl (fun hc => ?_) (fun hc => ?_)
      · rw [if_neg hc] at h
        refine av_iload K d_T_fillGate_63 rfl ?_
        refine av_iconst (v := (4 : Int32)) K d_T_fillGate_65 (by decide) ?_
        refine av_icmp_ne (tgt := 89) K d_T_fillGate_66 rfl (fun hc => ?_) (fun hc => ?_)
        · rw [if_neg hc] at h
          refine av_iload K d_T_fillGate_89 rfl ?_
          refine av_if_ne (tgt := 98) K d_T_fillGate_91 rfl (fun hc => ?_) (fun hc => ?_)
          · rw [if_neg hc] at h
            refine av_iload K d_T_fillGate_98 rfl ?_
            refine av_iconst (v := (1 : Int32)) K d_T_fillGate_100 (by decide) ?_
            refine av_icmp_ne (tgt := 108) K d_T_fillGate_101 rfl (fun hc => ?_) (fun hc => ?_)
            · rw [if_neg hc] at h
              refine av_aload_n K d_T_fillGate_108 rfl rfl ?_
              obtain ⟨q2, eq2, h⟩ := hp_bd h
              refine hv_grN K G fl_T_89 d_T_fillGate_109 eq2 ?_
              refine av_iload_n K d_T_fillGate_112 rfl rfl ?_
              obtain ⟨x3, ex3, h⟩ := hp_bd h
              refine hv_ri K d_T_fillGate_113 ex3 ?_
              exact v_T_fillGate_114 K G hr fu (f_T_fillGate_33 fu n) ih (v0) (v1) (v2) (v3) (v4) (v5) (v6) (x3) _ h
            · rw [if_pos hc] at h
              refine av_iconst (v := (1 : Int32)) K d_T_fillGate_104 (by decide) ?_
              refine av_goto (tgt := 114) K d_T_fillGate_105 rfl ?_
              exact v_T_fillGate_114 K G hr fu (f_T_fillGate_33 fu n) ih (v0) (v1) (v2) (v3) (v4) (v5) (v6) ((1 : Int32)) _ h
          · rw [if_pos hc] at h
            refine av_iload_n K d_T_fillGate_94 rfl rfl ?_
            refine av_goto (tgt := 114) K d_T_fillGate_95 rfl ?_
            exact v_T_fillGate_114 K G hr fu (f_T_fillGate_33 fu n) ih (v0) (v1) (v2) (v3) (v4) (v5) (v6) (v3) _ h
        · rw [if_pos hc] at h
          refine av_aload K d_T_fillGate_69 rfl ?_
          refine av_iload K d_T_fillGate_71 rfl ?_
          refine av_aload_n K d_T_fillGate_73 rfl rfl ?_
          refine av_iconst (v := (1 : Int32)) K d_T_fillGate_74 (by decide) ?_
          refine av_iload_n K d_T_fillGate_75 rfl rfl ?_
          refine av_iload K d_T_fillGate_76 rfl ?_
          obtain ⟨_, eo78, h⟩ := hp_bd h
          obtain ⟨r4, er4, h⟩ := hp_bd h
          obtain ⟨fs78, ho78⟩ := hp_is_of eo78
          refine av_cVl K G (c_T_atLeastWord (tab := tabON) er4) (cwV 3 K.2.2.2.2.1 (gV ml_T_85 im_T_atLeastWord se_T_atLeastWord in_T co_T_atLeastWord) rfl rfl rfl cd_T_atLeastWord ⟨Nat.le_of_ble_eq_true rfl, Nat.le_of_ble_eq_true rfl⟩) rfl ho78 rfl rfl (Nat.le_of_ble_eq_true rfl) d_T_fillGate_78 ⟨Nat.zero_le _, Nat.zero_le _⟩ (fun a9 u9 h9 => ?_)
          obtain ⟨rfl, rfl⟩ : a9 = r4.1 ∧ u9 = r4.2 := ⟨congrArg Prod.fst h9, congrArg Prod.snd h9⟩
          refine av_ldc2 K (cl_T_52) d_T_fillGate_81 ?_
          refine av_lxor K d_T_fillGate_84 ?_
          obtain ⟨w5, ew5, h⟩ := hp_bd h
          refine hv_wl K d_T_fillGate_85 ew5 ?_
          refine av_goto (tgt := 130) K d_T_fillGate_86 rfl ?_
          exact v_T_fillGate_130 K G hr fu (f_T_fillGate_33 fu n) ih (v0) (v1) (v2) (v3) (v4) (v5) (v6) _ h
      · rw [if_pos hc] at h
        refine av_aload K d_T_fillGate_48 rfl ?_
        refine av_iload K d_T_fillGate_50 rfl ?_
        refine av_aload_n K d_T_fillGate_52 rfl rfl ?_
        refine av_iload_n K d_T_fillGate_53 rfl rfl ?_
        refine av_iload K d_T_fillGate_54 rfl ?_
        obtain ⟨_, eo56, h⟩ := hp_bd h
        obtain ⟨r6, er6, h⟩ := hp_bd h
        obtain ⟨fs56, ho56⟩ := hp_is_of eo56
        refine av_cVl K G (c_T_oddWord (tab := tabON) er6) (cwV 2 K.2.2.2.2.1 (gV ml_T_81 im_T_oddWord se_T_oddWord in_T co_T_oddWord) rfl rfl rfl cd_T_oddWord ⟨Nat.le_of_ble_eq_true rfl, Nat.le_of_ble_eq_true rfl⟩) rfl ho56 rfl rfl (Nat.le_of_ble_eq_true rfl) d_T_fillGate_56 ⟨Nat.zero_le _, Nat.zero_le _⟩ (fun a9 u9 h9 => ?_)
        obtain ⟨rfl, rfl⟩ : a9 = r6.1 ∧ u9 = r6.2 := ⟨congrArg Prod.fst h9, congrArg Prod.snd h9⟩
        obtain ⟨w7, ew7, h⟩ := hp_bd h
        refine hv_wl K d_T_fillGate_59 ew7 ?_
        refine av_goto (tgt := 130) K d_T_fillGate_60 rfl ?_
        exact v_T_fillGate_130 K G hr fu (f_T_fillGate_33 fu n) ih (v0) (v1) (v2) (v3) (v4) (v5) (v6) _ h
set_option maxRecDepth 100000 in
set_option maxHeartbeats 4000000 in
theorem v_T_fillGate (K : av_K p s m args meth c D cl8 ca A b_T_fillGate 8 R_T WS) (G : av_G NS tabON A s s.heap) (hr : meth.sig.returnType = none) (fu : Nat) {r : List va_E} (v0 : Nat) (v1 : Nat) (v2 : Int32) (w : List va_E) (h : f_T_fillGate fu v0 v1 v2 w = some r) : av_VV p l e rm_T_fillGate s m args below meth c D cl8 A ad ca 8 r 0 [some (.ref v0), some (.ref v1), some (.int v2), none, none, none, none, none] [] w := by
  unfold f_T_fillGate at h
  refine av_aload_n K d_T_fillGate_0 rfl rfl ?_
  refine av_aload_n K d_T_fillGate_1 rfl rfl ?_
  obtain ⟨q1, eq1, h⟩ := hp_bd h
  refine hv_grN K G fl_T_72 d_T_fillGate_2 eq1 ?_
  refine av_iload_n K d_T_fillGate_5 rfl rfl ?_
  obtain ⟨x2, ex2, h⟩ := hp_bd h
  refine hv_ri K d_T_fillGate_6 ex2 ?_
  obtain ⟨_, eo7, h⟩ := hp_bd h
  obtain ⟨r3, er3, h⟩ := hp_bd h
  obtain ⟨fs7, ho7⟩ := hp_is_of eo7
  refine av_cVi K G (c_T_listInputs (tab := tabON) er3) (cwV 1 K.2.2.2.2.1 (gV ml_T_75 im_T_listInputs se_T_listInputs in_T co_T_listInputs) rfl rfl rfl cd_T_listInputs ⟨Nat.le_of_ble_eq_true rfl, Nat.le_of_ble_eq_true rfl⟩) rfl ho7 rfl rfl (Nat.le_of_ble_eq_true rfl) d_T_fillGate_7 ⟨Nat.zero_le _, Nat.zero_le _⟩ (fun a9 u9 h9 => ?_)
  obtain ⟨rfl, rfl⟩ : a9 = r3.1 ∧ u9 = r3.2 := ⟨congrArg Prod.fst h9, congrArg Prod.snd h9⟩
  refine av_istore_n (L' := [some (.ref v0), some (.ref v1), some (.int v2), some (.int r3.1), none, none, none, none]) K d_T_fillGate_10 rfl (Nat.le_of_ble_eq_true rfl) rfl ?_
  refine av_aload_n K d_T_fillGate_11 rfl rfl ?_
  obtain ⟨q4, eq4, h⟩ := hp_bd h
  refine hv_grN K G fl_T_78 d_T_fillGate_12 eq4 ?_
  refine av_iload_n K d_T_fillGate_15 rfl rfl ?_
  obtain ⟨x5, ex5, h⟩ := hp_bd h
  refine hv_ri K d_T_fillGate_16 ex5 ?_
  refine av_istore (L' := [some (.ref v0), some (.ref v1), some (.int v2), some (.int r3.1), some (.int x5), none, none, none]) K d_T_fillGate_17 (Nat.le_of_ble_eq_true rfl) rfl ?_
  refine av_aload_n K d_T_fillGate_19 rfl rfl ?_
  obtain ⟨q6, eq6, h⟩ := hp_bd h
  refine hv_gr K fl_T_11 d_T_fillGate_20 eq6 ?_
  refine av_bipush (v := (16 : Int32)) K d_T_fillGate_23 (by decide) ?_
  refine av_iload_n K d_T_fillGate_25 rfl rfl ?_
  refine av_iadd K d_T_fillGate_26 ?_
  obtain ⟨q7, eq7, h⟩ := hp_bd h
  refine hv_ra K d_T_fillGate_27 eq7 ?_
  refine av_astore (L' := [some (.ref v0), some (.ref v1), some (.int v2), some (.int r3.1), some (.int x5), some (.ref q7), none, none]) K d_T_fillGate_28 (Nat.le_of_ble_eq_true rfl) rfl ?_
  refine av_iconst (v := (0 : Int32)) K d_T_fillGate_30 (by decide) ?_
  refine av_istore (L' := [some (.ref v0), some (.ref v1), some (.int v2), some (.int r3.1), some (.int x5), some (.ref q7), some (.int (0 : Int32)), none]) K d_T_fillGate_31 (Nat.le_of_ble_eq_true rfl) rfl ?_
  exact v_T_fillGate_33 K G hr fu fu (v0) (v1) (v2) (r3.1) (x5) (q7) ((0 : Int32)) _ h
end
set_option maxRecDepth 100000 in
theorem c_T_fillGate {l : Launch} {D : va_G} {ca : Nat → Nat} {tab : Nat → Int64} {fu : Nat} {v0 : Nat} {v1 : Nat} {v2 : Int32} {w : List va_E} {r : List va_E} (h : f_T_fillGate fu v0 v1 v2 w = some r) : av_Cv l D cl8 ca NS tabON y_T_fillGate w_T_fillGate rm_T_fillGate [.ref v0, .ref v1, .int v2] w (fun u => u = r) :=
  av_inV (cc := b_T_fillGate) (nL := 8) (by decide +kernel) rfl (Nat.le_of_ble_eq_true rfl) (fun p e s m args below meth c A ad K G hr => v_T_fillGate K G hr fu v0 v1 v2 w h)

-- FaultTreeDesk$Truth.fillGates(LFaultTreeDesk$Gates;)V
theorem d_T_fillGates_0 : decode b_T_fillGates 0 = .ok (.aload_n 1, 1) := by decide +kernel
theorem d_T_fillGates_1 : decode b_T_fillGates 1 = .ok (.aload_n 0, 1) := by decide +kernel
theorem d_T_fillGates_2 : decode b_T_fillGates 2 = .ok (.getfield 27, 3) := by decide +kernel
theorem d_T_fillGates_5 : decode b_T_fillGates 5 = .ok (.invokevirtual 58, 3) := by decide +kernel
theorem d_T_fillGates_8 : decode b_T_fillGates 8 = .ok (.bipush 16, 2) := by decide +kernel
theorem d_T_fillGates_10 : decode b_T_fillGates 10 = .ok (.ishr, 1) := by decide +kernel
theorem d_T_fillGates_11 : decode b_T_fillGates 11 = .ok (.istore_n 2, 1) := by decide +kernel
theorem d_T_fillGates_12 : decode b_T_fillGates 12 = .ok (.iconst 0, 1) := by decide +kernel
theorem d_T_fillGates_13 : decode b_T_fillGates 13 = .ok (.istore_n 3, 1) := by decide +kernel
theorem d_T_fillGates_14 : decode b_T_fillGates 14 = .ok (.iload_n 3, 1) := by decide +kernel
theorem d_T_fillGates_15 : decode b_T_fillGates 15 = .ok (.bipush 12, 2) := by decide +kernel
theorem d_T_fillGates_17 : decode b_T_fillGates 17 = .ok (.if_icmp .ge 83, 3) := by decide +kernel
theorem d_T_fillGates_20 : decode b_T_fillGates 20 = .ok (.iload_n 2, 1) := by decide +kernel
theorem d_T_fillGates_21 : decode b_T_fillGates 21 = .ok (.ifCond .eq 79, 3) := by decide +kernel
theorem d_T_fillGates_24 : decode b_T_fillGates 24 = .ok (.iconst 0, 1) := by decide +kernel
theorem d_T_fillGates_25 : decode b_T_fillGates 25 = .ok (.istore 4, 2) := by decide +kernel
theorem d_T_fillGates_27 : decode b_T_fillGates 27 = .ok (.iload 4, 2) := by decide +kernel
theorem d_T_fillGates_29 : decode b_T_fillGates 29 = .ok (.aload_n 1, 1) := by decide +kernel
theorem d_T_fillGates_30 : decode b_T_fillGates 30 = .ok (.getfield 64, 3) := by decide +kernel
theorem d_T_fillGates_33 : decode b_T_fillGates 33 = .ok (.if_icmp .ge 61, 3) := by decide +kernel
theorem d_T_fillGates_36 : decode b_T_fillGates 36 = .ok (.aload_n 1, 1) := by decide +kernel
theorem d_T_fillGates_37 : decode b_T_fillGates 37 = .ok (.getfield 65, 3) := by decide +kernel
theorem d_T_fillGates_40 : decode b_T_fillGates 40 = .ok (.iload 4, 2) := by decide +kernel
theorem d_T_fillGates_42 : decode b_T_fillGates 42 = .ok (.iaload, 1) := by decide +kernel
theorem d_T_fillGates_43 : decode b_T_fillGates 43 = .ok (.bipush 16, 2) := by decide +kernel
theorem d_T_fillGates_45 : decode b_T_fillGates 45 = .ok (.ishr, 1) := by decide +kernel
theorem d_T_fillGates_46 : decode b_T_fillGates 46 = .ok (.iload_n 2, 1) := by decide +kernel
theorem d_T_fillGates_47 : decode b_T_fillGates 47 = .ok (.iand, 1) := by decide +kernel
theorem d_T_fillGates_48 : decode b_T_fillGates 48 = .ok (.ifCond .ne 7, 3) := by decide +kernel
theorem d_T_fillGates_51 : decode b_T_fillGates 51 = .ok (.iconst 1, 1) := by decide +kernel
theorem d_T_fillGates_52 : decode b_T_fillGates 52 = .ok (.goto 4, 3) := by decide +kernel
theorem d_T_fillGates_55 : decode b_T_fillGates 55 = .ok (.iconst 0, 1) := by decide +kernel
theorem d_T_fillGates_56 : decode b_T_fillGates 56 = .ok (.istore 5, 2) := by decide +kernel
theorem d_T_fillGates_58 : decode b_T_fillGates 58 = .ok (.iload_n 2, 1) := by decide +kernel
theorem d_T_fillGates_59 : decode b_T_fillGates 59 = .ok (.iload 4, 2) := by decide +kernel
theorem d_T_fillGates_61 : decode b_T_fillGates 61 = .ok (.ishr, 1) := by decide +kernel
theorem d_T_fillGates_62 : decode b_T_fillGates 62 = .ok (.iconst 1, 1) := by decide +kernel
theorem d_T_fillGates_63 : decode b_T_fillGates 63 = .ok (.iand, 1) := by decide +kernel
theorem d_T_fillGates_64 : decode b_T_fillGates 64 = .ok (.ifCond .eq 24, 3) := by decide +kernel
theorem d_T_fillGates_67 : decode b_T_fillGates 67 = .ok (.iload 5, 2) := by decide +kernel
theorem d_T_fillGates_69 : decode b_T_fillGates 69 = .ok (.ifCond .eq 19, 3) := by decide +kernel
theorem d_T_fillGates_72 : decode b_T_fillGates 72 = .ok (.aload_n 0, 1) := by decide +kernel
theorem d_T_fillGates_73 : decode b_T_fillGates 73 = .ok (.aload_n 1, 1) := by decide +kernel
theorem d_T_fillGates_74 : decode b_T_fillGates 74 = .ok (.iload 4, 2) := by decide +kernel
theorem d_T_fillGates_76 : decode b_T_fillGates 76 = .ok (.invokevirtual 68, 3) := by decide +kernel
theorem d_T_fillGates_79 : decode b_T_fillGates 79 = .ok (.iload_n 2, 1) := by decide +kernel
theorem d_T_fillGates_80 : decode b_T_fillGates 80 = .ok (.iconst 1, 1) := by decide +kernel
theorem d_T_fillGates_81 : decode b_T_fillGates 81 = .ok (.iload 4, 2) := by decide +kernel
theorem d_T_fillGates_83 : decode b_T_fillGates 83 = .ok (.ishl, 1) := by decide +kernel
theorem d_T_fillGates_84 : decode b_T_fillGates 84 = .ok (.iconst (-1), 1) := by decide +kernel
theorem d_T_fillGates_85 : decode b_T_fillGates 85 = .ok (.ixor, 1) := by decide +kernel
theorem d_T_fillGates_86 : decode b_T_fillGates 86 = .ok (.iand, 1) := by decide +kernel
theorem d_T_fillGates_87 : decode b_T_fillGates 87 = .ok (.istore_n 2, 1) := by decide +kernel
theorem d_T_fillGates_88 : decode b_T_fillGates 88 = .ok (.iinc 4 1, 3) := by decide +kernel
theorem d_T_fillGates_91 : decode b_T_fillGates 91 = .ok (.goto (-64), 3) := by decide +kernel
theorem d_T_fillGates_94 : decode b_T_fillGates 94 = .ok (.iinc 3 1, 3) := by decide +kernel
theorem d_T_fillGates_97 : decode b_T_fillGates 97 = .ok (.goto (-83), 3) := by decide +kernel
theorem d_T_fillGates_100 : decode b_T_fillGates 100 = .ok (.return_, 1) := by decide +kernel
def rm_T_fillGates : Room := { frames := 2, cells := 0, slots := 0, locals := 61 }
def f_T_fillGates_88 (fu : Nat) (k14 : Nat → Nat → Int32 → Int32 → List va_E → Option (List va_E)) (k27 : Nat → Nat → Int32 → Int32 → Int32 → List va_E → Option (List va_E)) (v0 : Nat) (v1 : Nat) (v2 : Int32) (v3 : Int32) (v4 : Int32) (w : List va_E) : Option (List va_E) := (k27 (v0) (v1) (v2) (v3) ((v4 + (1 : Int32))) w)
def f_T_fillGates_56 (fu : Nat) (k14 : Nat → Nat → Int32 → Int32 → List va_E → Option (List va_E)) (k27 : Nat → Nat → Int32 → Int32 → Int32 → List va_E → Option (List va_E)) (v0 : Nat) (v1 : Nat) (v2 : Int32) (v3 : Int32) (v4 : Int32) (s0 : Int32) (w : List va_E) : Option (List va_E) := (if ((v2 >>> (v4 &&& 31)) &&& (1 : Int32)) = 0 then (f_T_fillGates_88 fu k14 k27 (v0) (v1) (v2) (v3) (v4) w) else (if s0 = 0 then (f_T_fillGates_88 fu k14 k27 (v0) (v1) (v2) (v3) (v4) w) else ((hp_is w v0 5).bind fun _ => ((f_T_fillGate fu v0 v1 v4 w).bind fun r1 => (f_T_fillGates_88 fu k14 k27 (v0) (v1) ((v2 &&& (((1 : Int32) <<< (v4 &&& 31)) ^^^ (-1 : Int32)))) (v3) (v4) r1)))))
def f_T_fillGates_27 (fu : Nat) (k14 : Nat → Nat → Int32 → Int32 → List va_E → Option (List va_E)) : Nat → Nat → Nat → Int32 → Int32 → Int32 → List va_E → Option (List va_E)
  | 0, _, _, _, _, _, _ => none
  | n + 1, v0, v1, v2, v3, v4, w => ((hp_gi w v1 2 4).bind fun x1 => (if x1 ≤ v4 then (k14 (v0) (v1) (v2) ((v3 + (1 : Int32))) w) else ((hp_gr w v1 2 3).bind fun q2 => ((hp_ri w q2 v4).bind fun x3 => (if ((x3 >>> ((16 : Int32) &&& 31)) &&& v2) = 0 then (f_T_fillGates_56 fu k14 (f_T_fillGates_27 fu k14 n) (v0) (v1) (v2) (v3) (v4) ((1 : Int32)) w) else (f_T_fillGates_56 fu k14 (f_T_fillGates_27 fu k14 n) (v0) (v1) (v2) (v3) (v4) ((0 : Int32)) w))))))
def f_T_fillGates_100 (fu : Nat) (w : List va_E) : Option (List va_E) := (some w)
def f_T_fillGates_14 (fu : Nat) : Nat → Nat → Nat → Int32 → Int32 → List va_E → Option (List va_E)
  | 0, _, _, _, _, _ => none
  | n + 1, v0, v1, v2, v3, w => (if (12 : Int32) ≤ v3 then (f_T_fillGates_100 fu w) else (if v2 = 0 then (f_T_fillGates_100 fu w) else (f_T_fillGates_27 fu (f_T_fillGates_14 fu n) fu (v0) (v1) (v2) (v3) ((0 : Int32)) w)))
def f_T_fillGates (fu : Nat) (v0 : Nat) (v1 : Nat) (w : List va_E) : Option (List va_E) := ((hp_gi w v0 5 4).bind fun x1 => ((hp_is w v1 2).bind fun _ => ((f_G_withBelow fu v1 x1 w).bind fun r2 => (f_T_fillGates_14 fu fu (v0) (v1) ((r2.1 >>> ((16 : Int32) &&& 31))) ((0 : Int32)) r2.2))))
section
variable {p : Program} {l : Launch} {e : Env} {s : State} {m : MethodId} {args : Array Value} {below : List Frame} {meth : Method} {c : Code} {D : va_G} {ca : Nat → Nat} {A : Nat → Prop} {ad : Nat → Nat}
set_option maxRecDepth 100000 in
set_option maxHeartbeats 4000000 in
theorem v_T_fillGates_88 (K : av_K p s m args meth c D cl8 ca A b_T_fillGates 6 R_T WS) (G : av_G NS tabON A s s.heap) (hr : meth.sig.returnType = none) (fu : Nat) {r : List va_E} (k14 : Nat → Nat → Int32 → Int32 → List va_E → Option (List va_E)) (k27 : Nat → Nat → Int32 → Int32 → Int32 → List va_E → Option (List va_E)) (hk14 : ∀ (v0 : Nat) (v1 : Nat) (v2 : Int32) (v3 : Int32) (w : List va_E), k14 v0 v1 v2 v3 w = some r → av_VV p l e rm_T_fillGates s m args below meth c D cl8 A ad ca 6 r 14 [some (.ref v0), some (.ref v1), some (.int v2), some (.int v3), none, none] [] w) (hk27 : ∀ (v0 : Nat) (v1 : Nat) (v2 : Int32) (v3 : Int32) (v4 : Int32) (w : List va_E), k27 v0 v1 v2 v3 v4 w = some r → av_VV p l e rm_T_fillGates s m args below meth c D cl8 A ad ca 6 r 27 [some (.ref v0), some (.ref v1), some (.int v2), some (.int v3), some (.int v4), none] [] w) (v0 : Nat) (v1 : Nat) (v2 : Int32) (v3 : Int32) (v4 : Int32) (w : List va_E) (h : f_T_fillGates_88 fu k14 k27 v0 v1 v2 v3 v4 w = some r) : av_VV p l e rm_T_fillGates s m args below meth c D cl8 A ad ca 6 r 88 [some (.ref v0), some (.ref v1), some (.int v2), some (.int v3), some (.int v4), none] [] w := by
  unfold f_T_fillGates_88 at h
  refine av_iinc (v := (v4 + (1 : Int32))) (L' := [some (.ref v0), some (.ref v1), some (.int v2), some (.int v3), some (.int (v4 + (1 : Int32))), none]) K d_T_fillGates_88 rfl (congrArg (fun z => v4 + z) (show Int32.ofInt 1 = (1 : Int32) by decide)) (Nat.le_of_ble_eq_true rfl) rfl ?_
  refine av_goto (tgt := 27) K d_T_fillGates_91 rfl ?_
  exact hk27 (v0) (v1) (v2) (v3) ((v4 + (1 : Int32))) _ h
set_option maxRecDepth 100000 in
set_option maxHeartbeats 4000000 in
theorem v_T_fillGates_56 (K : av_K p s m args meth c D cl8 ca A b_T_fillGates 6 R_T WS) (G : av_G NS tabON A s s.heap) (hr : meth.sig.returnType = none) (fu : Nat) {r : List va_E} (k14 : Nat → Nat → Int32 → Int32 → List va_E → Option (List va_E)) (k27 : Nat → Nat → Int32 → Int32 → Int32 → List va_E → Option (List va_E)) (hk14 : ∀ (v0 : Nat) (v1 : Nat) (v2 : Int32) (v3 : Int32) (w : List va_E), k14 v0 v1 v2 v3 w = some r → av_VV p l e rm_T_fillGates s m args below meth c D cl8 A ad ca 6 r 14 [some (.ref v0), some (.ref v1), some (.int v2), some (.int v3), none, none] [] w) (hk27 : ∀ (v0 : Nat) (v1 : Nat) (v2 : Int32) (v3 : Int32) (v4 : Int32) (w : List va_E), k27 v0 v1 v2 v3 v4 w = some r → av_VV p l e rm_T_fillGates s m args below meth c D cl8 A ad ca 6 r 27 [some (.ref v0), some (.ref v1), some (.int v2), some (.int v3), some (.int v4), none] [] w) (v0 : Nat) (v1 : Nat) (v2 : Int32) (v3 : Int32) (v4 : Int32) (s0 : Int32) (w : List va_E) (h : f_T_fillGates_56 fu k14 k27 v0 v1 v2 v3 v4 s0 w = some r) : av_VV p l e rm_T_fillGates s m args below meth c D cl8 A ad ca 6 r 56 [some (.ref v0), some (.ref v1), some (.int v2), some (.int v3), some (.int v4), none] [.int s0] w := by
  unfold f_T_fillGates_56 at h
  refine av_istore (L' := [some (.ref v0), some (.ref v1), some (.int v2), some (.int v3), some (.int v4), some (.int s0)]) K d_T_fillGates_56 (Nat.le_of_ble_eq_true rfl) rfl ?_
  refine av_iload_n K d_T_fillGates_58 rfl rfl ?_
  refine av_iload K d_T_fillGates_59 rfl ?_
  refine av_ishr K d_T_fillGates_61 ?_
  refine av_iconst (v := (1 : Int32)) K d_T_fillGates_62 (by decide) ?_
  refine av_iand K d_T_fillGates_63 ?_
  refine av_if_eq (tgt := 88) K d_T_fillGates_64 rfl (fun hc => ?_) (fun hc => ?_)
  · rw [if_pos hc] at h
    refine hv_fg (L' := [some (.ref v0), some (.ref v1), some (.int v2), some (.int v3), some (.int v4), none]) [5] rfl ?_
    exact v_T_fillGates_88 K G hr fu k14 k27 hk14 hk27 (v0) (v1) (v2) (v3) (v4) _ h
  · rw [if_neg hc] at h
    refine av_iload K d_T_fillGates_67 rfl ?_
    refine av_if_eq (tgt := 88) K d_T_fillGates_69 rfl (fun hc => ?_) (fun hc => ?_)
    · rw [if_pos hc] at h
      refine hv_fg (L' := [some (.ref v0), some (.ref v1), some (.int v2), some (.int v3), some (.int v4), none]) [5] rfl ?_
      exact v_T_fillGates_88 K G hr fu k14 k27 hk14 hk27 (v0) (v1) (v2) (v3) (v4) _ h
    · rw [if_neg hc] at h
      refine av_aload_n K d_T_fillGates_72 rfl rfl ?_
      refine av_aload_n K d_T_fillGates_73 rfl rfl ?_
      refine av_iload K d_T_fillGates_74 rfl ?_
      obtain ⟨_, eo76, h⟩ := hp_bd h
      obtain ⟨r1, er1, h⟩ := hp_bd h
      obtain ⟨fs76, ho76⟩ := hp_is_of eo76
      refine av_cVv K G (c_T_fillGate (tab := tabON) er1) (cwV 2 K.2.2.2.2.1 (gV ml_T_68 im_T_fillGate se_T_fillGate in_T co_T_fillGate) rfl rfl rfl cd_T_fillGate ⟨Nat.le_of_ble_eq_true rfl, Nat.le_of_ble_eq_true rfl⟩) rfl ho76 rfl rfl (Nat.le_of_ble_eq_true rfl) d_T_fillGates_76 ⟨Nat.zero_le _, Nat.zero_le _⟩ (fun u9 h9 => ?_)
      subst h9
      refine av_iload_n K d_T_fillGates_79 rfl rfl ?_
      refine av_iconst (v := (1 : Int32)) K d_T_fillGates_80 (by decide) ?_
      refine av_iload K d_T_fillGates_81 rfl ?_
      refine av_ishl K d_T_fillGates_83 ?_
      refine av_iconst (v := (-1 : Int32)) K d_T_fillGates_84 (by decide) ?_
      refine av_ixor K d_T_fillGates_85 ?_
      refine av_iand K d_T_fillGates_86 ?_
      refine av_istore_n (L' := [some (.ref v0), some (.ref v1), some (.int (v2 &&& (((1 : Int32) <<< (v4 &&& 31)) ^^^ (-1 : Int32)))), some (.int v3), some (.int v4), some (.int s0)]) K d_T_fillGates_87 rfl (Nat.le_of_ble_eq_true rfl) rfl ?_
      refine hv_fg (L' := [some (.ref v0), some (.ref v1), some (.int (v2 &&& (((1 : Int32) <<< (v4 &&& 31)) ^^^ (-1 : Int32)))), some (.int v3), some (.int v4), none]) [5] rfl ?_
      exact v_T_fillGates_88 K G hr fu k14 k27 hk14 hk27 (v0) (v1) ((v2 &&& (((1 : Int32) <<< (v4 &&& 31)) ^^^ (-1 : Int32)))) (v3) (v4) _ h
set_option maxRecDepth 100000 in
set_option maxHeartbeats 4000000 in
theorem v_T_fillGates_27 (K : av_K p s m args meth c D cl8 ca A b_T_fillGates 6 R_T WS) (G : av_G NS tabON A s s.heap) (hr : meth.sig.returnType = none) (fu : Nat) {r : List va_E} (k14 : Nat → Nat → Int32 → Int32 → List va_E → Option (List va_E)) (hk14 : ∀ (v0 : Nat) (v1 : Nat) (v2 : Int32) (v3 : Int32) (w : List va_E), k14 v0 v1 v2 v3 w = some r → av_VV p l e rm_T_fillGates s m args below meth c D cl8 A ad ca 6 r 14 [some (.ref v0), some (.ref v1), some (.int v2), some (.int v3), none, none] [] w) : ∀ (n : Nat) (v0 : Nat) (v1 : Nat) (v2 : Int32) (v3 : Int32) (v4 : Int32) (w : List va_E), f_T_fillGates_27 fu k14 n v0 v1 v2 v3 v4 w = some r → av_VV p l e rm_T_fillGates s m args below meth c D cl8 A ad ca 6 r 27 [some (.ref v0), some (.ref v1), some (.int v2), some (.int v3), some (.int v4), none] [] w := by
  intro n
  induction n with
  | zero => intro _ _ _ _ _ _ h; cases h
  | succ n ih =>
    intro v0 v1 v2 v3 v4 w h
    unfold f_T_fillGates_27 at h
    refine av_iload K d_T_fillGates_27 rfl ?_
    refine av_aload_n K d_T_fillGates_29 rfl rfl ?_
    obtain ⟨x1, ex1, h⟩ := hp_bd h
    refine hv_giN K G fl_T_64 d_T_fillGates_30 ex1 ?_
    refine av_icmp_ge (tgt := 94) K d_T_fillGates_33 rfl (fun hc => ?_) (fun hc => ?_)
    · rw [if_pos hc] at h
      refine av_iinc (v := (v3 + (1 : Int32))) (L' := [some (.ref v0), some (.ref v1), some (.int v2), some (.int (v3 + (1 : Int32))), some (.int v4), none]) K d_T_fillGates_94 rfl (congrArg (fun z => v3 + z) (show Int32.ofInt 1 = (1 : Int32) by decide)) (Nat.le_of_ble_eq_true rfl) rfl ?_
      refine av_goto (tgt := 14) K d_T_fillGates_97 rfl ?_
      refine hv_fg (L' := [some (.ref v0), some (.ref v1), some (.int v2), some (.int (v3 + (1 : Int32))), none, none]) [4] rfl ?_
      exact hk14 (v0) (v1) (v2) ((v3 + (1 : Int32))) _ h
    · rw [if_neg hc] at h
      refine av_aload_n K d_T_fillGates_36 rfl rfl ?_
      obtain ⟨q2, eq2, h⟩ := hp_bd h
      refine hv_grN K G fl_T_65 d_T_fillGates_37 eq2 ?_
      refine av_iload K d_T_fillGates_40 rfl ?_
      obtain ⟨x3, ex3, h⟩ := hp_bd h
      refine hv_ri K d_T_fillGates_42 ex3 ?_
      refine av_bipush (v := (16 : Int32)) K d_T_fillGates_43 (by decide) ?_
      refine av_ishr K d_T_fillGates_45 ?_
      refine av_iload_n K d_T_fillGates_46 rfl rfl ?_
      refine av_iand K d_T_fillGates_47 ?_
      refine av_if_ne (tgt := 55) K d_T_fillGates_48 rfl (fun hc => ?_) (fun hc => ?_)
      · rw [if_neg hc] at h
        refine av_iconst (v := (0 : Int32)) K d_T_fillGates_55 (by decide) ?_
        exact v_T_fillGates_56 K G hr fu k14 (f_T_fillGates_27 fu k14 n) hk14 ih (v0) (v1) (v2) (v3) (v4) ((0 : Int32)) _ h
      · rw [if_pos hc] at h
        refine av_iconst (v := (1 : Int32)) K d_T_fillGates_51 (by decide) ?_
        refine av_goto (tgt := 56) K d_T_fillGates_52 rfl ?_
        exact v_T_fillGates_56 K G hr fu k14 (f_T_fillGates_27 fu k14 n) hk14 ih (v0) (v1) (v2) (v3) (v4) ((1 : Int32)) _ h
set_option maxRecDepth 100000 in
set_option maxHeartbeats 4000000 in
theorem v_T_fillGates_100 (K : av_K p s m args meth c D cl8 ca A b_T_fillGates 6 R_T WS) (G : av_G NS tabON A s s.heap) (hr : meth.sig.returnType = none) (fu : Nat) {r : List va_E} (w : List va_E) (h : f_T_fillGates_100 fu w = some r) : av_VV p l e rm_T_fillGates s m args below meth c D cl8 A ad ca 6 r 100 [none, none, none, none, none, none] [] w := by
  unfold f_T_fillGates_100 at h
  obtain rfl := Option.some.inj h
  exact av_return K hr d_T_fillGates_100 rfl
set_option maxRecDepth 100000 in
set_option maxHeartbeats 4000000 in
theorem v_T_fillGates_14 (K : av_K p s m args meth c D cl8 ca A b_T_fillGates 6 R_T WS) (G : av_G NS tabON A s s.heap) (hr : meth.sig.returnType = none) (fu : Nat) {r : List va_E} : ∀ (n : Nat) (v0 : Nat) (v1 : Nat) (v2 : Int32) (v3 : Int32) (w : List va_E), f_T_fillGates_14 fu n v0 v1 v2 v3 w = some r → av_VV p l e rm_T_fillGates s m args below meth c D cl8 A ad ca 6 r 14 [some (.ref v0), some (.ref v1), some (.int v2), some (.int v3), none, none] [] w := by
  intro n
  induction n with
  | zero => intro _ _ _ _ _ h; cases h
  | succ n ih =>
    intro v0 v1 v2 v3 w h
    unfold f_T_fillGates_14 at h
    refine av_iload_n K d_T_fillGates_14 rfl rfl ?_
    refine av_bipush (v := (12 : Int32)) K d_T_fillGates_15 (by decide) ?_
    refine av_icmp_ge (tgt := 100) K d_T_fillGates_17 rfl (fun hc => ?_) (fun hc => ?_)
    · rw [if_pos hc] at h
      refine hv_fg (L' := [none, none, none, none, none, none]) [0, 1, 2, 3] rfl ?_
      exact v_T_fillGates_100 K G hr fu _ h
    · rw [if_neg hc] at h
      refine av_iload_n K d_T_fillGates_20 rfl rfl ?_
      refine av_if_eq (tgt := 100) K d_T_fillGates_21 rfl (fun hc => ?_) (fun hc => ?_)
      · rw [if_pos hc] at h
        refine hv_fg (L' := [none, none, none, none, none, none]) [0, 1, 2, 3] rfl ?_
        exact v_T_fillGates_100 K G hr fu _ h
      · rw [if_neg hc] at h
        refine av_iconst (v := (0 : Int32)) K d_T_fillGates_24 (by decide) ?_
        refine av_istore (L' := [some (.ref v0), some (.ref v1), some (.int v2), some (.int v3), some (.int (0 : Int32)), none]) K d_T_fillGates_25 (Nat.le_of_ble_eq_true rfl) rfl ?_
        exact v_T_fillGates_27 K G hr fu (f_T_fillGates_14 fu n) ih fu (v0) (v1) (v2) (v3) ((0 : Int32)) _ h
set_option maxRecDepth 100000 in
set_option maxHeartbeats 4000000 in
theorem v_T_fillGates (K : av_K p s m args meth c D cl8 ca A b_T_fillGates 6 R_T WS) (G : av_G NS tabON A s s.heap) (hr : meth.sig.returnType = none) (fu : Nat) {r : List va_E} (v0 : Nat) (v1 : Nat) (w : List va_E) (h : f_T_fillGates fu v0 v1 w = some r) : av_VV p l e rm_T_fillGates s m args below meth c D cl8 A ad ca 6 r 0 [some (.ref v0), some (.ref v1), none, none, none, none] [] w := by
  unfold f_T_fillGates at h
  refine av_aload_n K d_T_fillGates_0 rfl rfl ?_
  refine av_aload_n K d_T_fillGates_1 rfl rfl ?_
  obtain ⟨x1, ex1, h⟩ := hp_bd h
  refine hv_gi K fl_T_27 d_T_fillGates_2 ex1 ?_
  obtain ⟨_, eo5, h⟩ := hp_bd h
  obtain ⟨r2, er2, h⟩ := hp_bd h
  obtain ⟨fs5, ho5⟩ := hp_is_of eo5
  refine av_cVi K G (c_G_withBelow (tab := tabON) er2) (cwV 1 K.2.2.2.2.1 (gV ml_T_58 im_G_withBelow se_G_withBelow in_G co_G_withBelow) rfl rfl rfl cd_G_withBelow ⟨Nat.le_of_ble_eq_true rfl, Nat.le_of_ble_eq_true rfl⟩) rfl ho5 rfl rfl (Nat.le_of_ble_eq_true rfl) d_T_fillGates_5 ⟨Nat.zero_le _, Nat.zero_le _⟩ (fun a9 u9 h9 => ?_)
  obtain ⟨rfl, rfl⟩ : a9 = r2.1 ∧ u9 = r2.2 := ⟨congrArg Prod.fst h9, congrArg Prod.snd h9⟩
  refine av_bipush (v := (16 : Int32)) K d_T_fillGates_8 (by decide) ?_
  refine av_ishr K d_T_fillGates_10 ?_
  refine av_istore_n (L' := [some (.ref v0), some (.ref v1), some (.int (r2.1 >>> ((16 : Int32) &&& 31))), none, none, none]) K d_T_fillGates_11 rfl (Nat.le_of_ble_eq_true rfl) rfl ?_
  refine av_iconst (v := (0 : Int32)) K d_T_fillGates_12 (by decide) ?_
  refine av_istore_n (L' := [some (.ref v0), some (.ref v1), some (.int (r2.1 >>> ((16 : Int32) &&& 31))), some (.int (0 : Int32)), none, none]) K d_T_fillGates_13 rfl (Nat.le_of_ble_eq_true rfl) rfl ?_
  exact v_T_fillGates_14 K G hr fu fu (v0) (v1) ((r2.1 >>> ((16 : Int32) &&& 31))) ((0 : Int32)) _ h
end
set_option maxRecDepth 100000 in
theorem c_T_fillGates {l : Launch} {D : va_G} {ca : Nat → Nat} {tab : Nat → Int64} {fu : Nat} {v0 : Nat} {v1 : Nat} {w : List va_E} {r : List va_E} (h : f_T_fillGates fu v0 v1 w = some r) : av_Cv l D cl8 ca NS tabON y_T_fillGates w_T_fillGates rm_T_fillGates [.ref v0, .ref v1] w (fun u => u = r) :=
  av_inV (cc := b_T_fillGates) (nL := 6) (by decide +kernel) rfl (Nat.le_of_ble_eq_true rfl) (fun p e s m args below meth c A ad K G hr => v_T_fillGates K G hr fu v0 v1 w h)

-- FaultTreeDesk$Truth.fill(LFaultTreeDesk$Events;LFaultTreeDesk$Gates;II)V
theorem d_T_fill_0 : decode b_T_fill 0 = .ok (.aload_n 0, 1) := by decide +kernel
theorem d_T_fill_1 : decode b_T_fill 1 = .ok (.iconst 1, 1) := by decide +kernel
theorem d_T_fill_2 : decode b_T_fill 2 = .ok (.aload_n 1, 1) := by decide +kernel
theorem d_T_fill_3 : decode b_T_fill 3 = .ok (.getfield 30, 3) := by decide +kernel
theorem d_T_fill_6 : decode b_T_fill 6 = .ok (.ishl, 1) := by decide +kernel
theorem d_T_fill_7 : decode b_T_fill 7 = .ok (.putfield 20, 3) := by decide +kernel
theorem d_T_fill_10 : decode b_T_fill 10 = .ok (.aload_n 0, 1) := by decide +kernel
theorem d_T_fill_11 : decode b_T_fill 11 = .ok (.iconst 1, 1) := by decide +kernel
theorem d_T_fill_12 : decode b_T_fill 12 = .ok (.aload_n 0, 1) := by decide +kernel
theorem d_T_fill_13 : decode b_T_fill 13 = .ok (.getfield 20, 3) := by decide +kernel
theorem d_T_fill_16 : decode b_T_fill 16 = .ok (.bipush 64, 2) := by decide +kernel
theorem d_T_fill_18 : decode b_T_fill 18 = .ok (.idiv, 1) := by decide +kernel
theorem d_T_fill_19 : decode b_T_fill 19 = .ok (.invokestatic 35, 3) := by decide +kernel
theorem d_T_fill_22 : decode b_T_fill 22 = .ok (.putfield 24, 3) := by decide +kernel
theorem d_T_fill_25 : decode b_T_fill 25 = .ok (.aload_n 0, 1) := by decide +kernel
theorem d_T_fill_26 : decode b_T_fill 26 = .ok (.bipush 16, 2) := by decide +kernel
theorem d_T_fill_28 : decode b_T_fill 28 = .ok (.iload_n 3, 1) := by decide +kernel
theorem d_T_fill_29 : decode b_T_fill 29 = .ok (.iadd, 1) := by decide +kernel
theorem d_T_fill_30 : decode b_T_fill 30 = .ok (.putfield 27, 3) := by decide +kernel
theorem d_T_fill_33 : decode b_T_fill 33 = .ok (.iconst 0, 1) := by decide +kernel
theorem d_T_fill_34 : decode b_T_fill 34 = .ok (.istore 5, 2) := by decide +kernel
theorem d_T_fill_36 : decode b_T_fill 36 = .ok (.iload 5, 2) := by decide +kernel
theorem d_T_fill_38 : decode b_T_fill 38 = .ok (.aload_n 1, 1) := by decide +kernel
theorem d_T_fill_39 : decode b_T_fill 39 = .ok (.getfield 30, 3) := by decide +kernel
theorem d_T_fill_42 : decode b_T_fill 42 = .ok (.if_icmp .ge 33, 3) := by decide +kernel
theorem d_T_fill_45 : decode b_T_fill 45 = .ok (.aload_n 0, 1) := by decide +kernel
theorem d_T_fill_46 : decode b_T_fill 46 = .ok (.iload 5, 2) := by decide +kernel
theorem d_T_fill_48 : decode b_T_fill 48 = .ok (.iload 5, 2) := by decide +kernel
theorem d_T_fill_50 : decode b_T_fill 50 = .ok (.iload 4, 2) := by decide +kernel
theorem d_T_fill_52 : decode b_T_fill 52 = .ok (.if_icmp .ne 7, 3) := by decide +kernel
theorem d_T_fill_55 : decode b_T_fill 55 = .ok (.iconst 0, 1) := by decide +kernel
theorem d_T_fill_56 : decode b_T_fill 56 = .ok (.goto 10, 3) := by decide +kernel
theorem d_T_fill_59 : decode b_T_fill 59 = .ok (.aload_n 1, 1) := by decide +kernel
theorem d_T_fill_60 : decode b_T_fill 60 = .ok (.getfield 41, 3) := by decide +kernel
theorem d_T_fill_63 : decode b_T_fill 63 = .ok (.iload 5, 2) := by decide +kernel
theorem d_T_fill_65 : decode b_T_fill 65 = .ok (.iaload, 1) := by decide +kernel
theorem d_T_fill_66 : decode b_T_fill 66 = .ok (.invokevirtual 44, 3) := by decide +kernel
theorem d_T_fill_69 : decode b_T_fill 69 = .ok (.iinc 5 1, 3) := by decide +kernel
theorem d_T_fill_72 : decode b_T_fill 72 = .ok (.goto (-36), 3) := by decide +kernel
theorem d_T_fill_75 : decode b_T_fill 75 = .ok (.aload_n 0, 1) := by decide +kernel
theorem d_T_fill_76 : decode b_T_fill 76 = .ok (.aload_n 2, 1) := by decide +kernel
theorem d_T_fill_77 : decode b_T_fill 77 = .ok (.invokevirtual 48, 3) := by decide +kernel
theorem d_T_fill_80 : decode b_T_fill 80 = .ok (.return_, 1) := by decide +kernel
def rm_T_fill : Room := { frames := 3, cells := 0, slots := 0, locals := 86 }
def f_T_fill_66 (fu : Nat) (k36 : Nat → Nat → Nat → Int32 → Int32 → List va_E → Option (List va_E)) (v0 : Nat) (v1 : Nat) (v2 : Nat) (v4 : Int32) (v5 : Int32) (s0 : Nat) (s1 : Int32) (s2 : Int32) (w : List va_E) : Option (List va_E) := ((hp_is w s0 5).bind fun _ => ((f_T_fillEvent fu s0 s1 s2 w).bind fun r1 => (k36 (v0) (v1) (v2) (v4) ((v5 + (1 : Int32))) r1)))
def f_T_fill_36 (fu : Nat) : Nat → Nat → Nat → Nat → Int32 → Int32 → List va_E → Option (List va_E)
  | 0, _, _, _, _, _, _ => none
  | n + 1, v0, v1, v2, v4, v5, w => ((hp_gi w v1 1 2).bind fun x1 => (if x1 ≤ v5 then ((hp_is w v0 5).bind fun _ => ((f_T_fillGates fu v0 v2 w).bind fun r2 => (some r2))) else (if v5 = v4 then (f_T_fill_66 fu (f_T_fill_36 fu n) (v0) (v1) (v2) (v4) (v5) (v0) (v5) ((0 : Int32)) w) else ((hp_gr w v1 1 1).bind fun q3 => ((hp_ri w q3 v5).bind fun x4 => (f_T_fill_66 fu (f_T_fill_36 fu n) (v0) (v1) (v2) (v4) (v5) (v0) (v5) (x4) w))))))
def f_T_fill (fu : Nat) (v0 : Nat) (v1 : Nat) (v2 : Nat) (v3 : Int32) (v4 : Int32) (w : List va_E) : Option (List va_E) := ((hp_gi w v1 1 2).bind fun x1 => ((hp_pi w v0 5 2 ((1 : Int32) <<< (x1 &&& 31))).bind fun w2 => ((hp_gi w2 v0 5 2).bind fun x3 => ((hp_pi w2 v0 5 3 (if (1 : Int32) < (x3 / (64 : Int32)) then (x3 / (64 : Int32)) else (1 : Int32))).bind fun w4 => ((hp_pi w4 v0 5 4 ((16 : Int32) + v3)).bind fun w5 => (f_T_fill_36 fu fu (v0) (v1) (v2) (v4) ((0 : Int32)) w5))))))
section
variable {p : Program} {l : Launch} {e : Env} {s : State} {m : MethodId} {args : Array Value} {below : List Frame} {meth : Method} {c : Code} {D : va_G} {ca : Nat → Nat} {A : Nat → Prop} {ad : Nat → Nat}
set_option maxRecDepth 100000 in
set_option maxHeartbeats 4000000 in
theorem v_T_fill_66 (K : av_K p s m args meth c D cl8 ca A b_T_fill 6 R_T WS) (G : av_G NS tabON A s s.heap) (hr : meth.sig.returnType = none) (fu : Nat) {r : List va_E} (k36 : Nat → Nat → Nat → Int32 → Int32 → List va_E → Option (List va_E)) (hk36 : ∀ (v0 : Nat) (v1 : Nat) (v2 : Nat) (v4 : Int32) (v5 : Int32) (w : List va_E), k36 v0 v1 v2 v4 v5 w = some r → av_VV p l e rm_T_fill s m args below meth c D cl8 A ad ca 6 r 36 [some (.ref v0), some (.ref v1), some (.ref v2), none, some (.int v4), some (.int v5)] [] w) (v0 : Nat) (v1 : Nat) (v2 : Nat) (v4 : Int32) (v5 : Int32) (s0 : Nat) (s1 : Int32) (s2 : Int32) (w : List va_E) (h : f_T_fill_66 fu k36 v0 v1 v2 v4 v5 s0 s1 s2 w = some r) : av_VV p l e rm_T_fill s m args below meth c D cl8 A ad ca 6 r 66 [some (.ref v0), some (.ref v1), some (.ref v2), none, some (.int v4), some (.int v5)] [.int s2, .int s1, .ref s0] w := by
  unfold f_T_fill_66 at h
  obtain ⟨_, eo66, h⟩ := hp_bd h
  obtain ⟨r1, er1, h⟩ := hp_bd h
  obtain ⟨fs66, ho66⟩ := hp_is_of eo66
  refine av_cVv K G (c_T_fillEvent (tab := tabON) er1) (cwV 2 K.2.2.2.2.1 (gV ml_T_44 im_T_fillEvent se_T_fillEvent in_T co_T_fillEvent) rfl rfl rfl cd_T_fillEvent ⟨Nat.le_of_ble_eq_true rfl, Nat.le_of_ble_eq_true rfl⟩) rfl ho66 rfl rfl (Nat.le_of_ble_eq_true rfl) d_T_fill_66 ⟨Nat.zero_le _, Nat.zero_le _⟩ (fun u9 h9 => ?_)
  subst h9
  refine av_iinc (v := (v5 + (1 : Int32))) (L' := [some (.ref v0), some (.ref v1), some (.ref v2), none, some (.int v4), some (.int (v5 + (1 : Int32)))]) K d_T_fill_69 rfl (congrArg (fun z => v5 + z) (show Int32.ofInt 1 = (1 : Int32) by decide)) (Nat.le_of_ble_eq_true rfl) rfl ?_
  refine av_goto (tgt := 36) K d_T_fill_72 rfl ?_
  exact hk36 (v0) (v1) (v2) (v4) ((v5 + (1 : Int32))) _ h
set_option maxRecDepth 100000 in
set_option maxHeartbeats 4000000 in
theorem v_T_fill_36 (K : av_K p s m args meth c D cl8 ca A b_T_fill 6 R_T WS) (G : av_G NS tabON A s s.heap) (hr : meth.sig.returnType = none) (fu : Nat) {r : List va_E} : ∀ (n : Nat) (v0 : Nat) (v1 : Nat) (v2 : Nat) (v4 : Int32) (v5 : Int32) (w : List va_E), f_T_fill_36 fu n v0 v1 v2 v4 v5 w = some r → av_VV p l e rm_T_fill s m args below meth c D cl8 A ad ca 6 r 36 [some (.ref v0), some (.ref v1), some (.ref v2), none, some (.int v4), some (.int v5)] [] w := by
  intro n
  induction n with
  | zero => intro _ _ _ _ _ _ h; cases h
  | succ n ih =>
    intro v0 v1 v2 v4 v5 w h
    unfold f_T_fill_36 at h
    refine av_iload K d_T_fill_36 rfl ?_
    refine av_aload_n K d_T_fill_38 rfl rfl ?_
    obtain ⟨x1, ex1, h⟩ := hp_bd h
    refine hv_giN K G fl_T_30 d_T_fill_39 ex1 ?_
    refine av_icmp_ge (tgt := 75) K d_T_fill_42 rfl (fun hc => ?_) (fun hc => ?_)
    · rw [if_pos hc] at h
      refine av_aload_n K d_T_fill_75 rfl rfl ?_
      refine av_aload_n K d_T_fill_76 rfl rfl ?_
      obtain ⟨_, eo77, h⟩ := hp_bd h
      obtain ⟨r2, er2, h⟩ := hp_bd h
      obtain ⟨fs77, ho77⟩ := hp_is_of eo77
      refine av_cVv K G (c_T_fillGates (tab := tabON) er2) (cwV 1 K.2.2.2.2.1 (gV ml_T_48 im_T_fillGates se_T_fillGates in_T co_T_fillGates) rfl rfl rfl cd_T_fillGates ⟨Nat.le_of_ble_eq_true rfl, Nat.le_of_ble_eq_true rfl⟩) rfl ho77 rfl rfl (Nat.le_of_ble_eq_true rfl) d_T_fill_77 ⟨Nat.zero_le _, Nat.zero_le _⟩ (fun u9 h9 => ?_)
      subst h9
      obtain rfl := Option.some.inj h
      exact av_return K hr d_T_fill_80 rfl
    · rw [if_neg hc] at h
      refine av_aload_n K d_T_fill_45 rfl rfl ?_
      refine av_iload K d_T_fill_46 rfl ?_
      refine av_iload K d_T_fill_48 rfl ?_
      refine av_iload K d_T_fill_50 rfl ?_
      refine av_icmp_ne (tgt := 59) K d_T_fill_52 rfl (fun hc => ?_) (fun hc => ?_)
      · rw [if_neg hc] at h
        refine av_aload_n K d_T_fill_59 rfl rfl ?_
        obtain ⟨q3, eq3, h⟩ := hp_bd h
        refine hv_grN K G fl_T_41 d_T_fill_60 eq3 ?_
        refine av_iload K d_T_fill_63 rfl ?_
        obtain ⟨x4, ex4, h⟩ := hp_bd h
        refine hv_ri K d_T_fill_65 ex4 ?_
        exact v_T_fill_66 K G hr fu (f_T_fill_36 fu n) ih (v0) (v1) (v2) (v4) (v5) (v0) (v5) (x4) _ h
      · rw [if_pos hc] at h
        refine av_iconst (v := (0 : Int32)) K d_T_fill_55 (by decide) ?_
        refine av_goto (tgt := 66) K d_T_fill_56 rfl ?_
        exact v_T_fill_66 K G hr fu (f_T_fill_36 fu n) ih (v0) (v1) (v2) (v4) (v5) (v0) (v5) ((0 : Int32)) _ h
set_option maxRecDepth 100000 in
set_option maxHeartbeats 4000000 in
theorem v_T_fill (K : av_K p s m args meth c D cl8 ca A b_T_fill 6 R_T WS) (G : av_G NS tabON A s s.heap) (hr : meth.sig.returnType = none) (fu : Nat) {r : List va_E} (v0 : Nat) (v1 : Nat) (v2 : Nat) (v3 : Int32) (v4 : Int32) (w : List va_E) (h : f_T_fill fu v0 v1 v2 v3 v4 w = some r) : av_VV p l e rm_T_fill s m args below meth c D cl8 A ad ca 6 r 0 [some (.ref v0), some (.ref v1), some (.ref v2), some (.int v3), some (.int v4), none] [] w := by
  unfold f_T_fill at h
  refine av_aload_n K d_T_fill_0 rfl rfl ?_
  refine av_iconst (v := (1 : Int32)) K d_T_fill_1 (by decide) ?_
  refine av_aload_n K d_T_fill_2 rfl rfl ?_
  obtain ⟨x1, ex1, h⟩ := hp_bd h
  refine hv_giN K G fl_T_30 d_T_fill_3 ex1 ?_
  refine av_ishl K d_T_fill_6 ?_
  obtain ⟨w2, ew2, h⟩ := hp_bd h
  refine hv_pi K fp_T_20 d_T_fill_7 ew2 ?_
  refine av_aload_n K d_T_fill_10 rfl rfl ?_
  refine av_iconst (v := (1 : Int32)) K d_T_fill_11 (by decide) ?_
  refine av_aload_n K d_T_fill_12 rfl rfl ?_
  obtain ⟨x3, ex3, h⟩ := hp_bd h
  refine hv_gi K fl_T_20 d_T_fill_13 ex3 ?_
  refine av_bipush (v := (64 : Int32)) K d_T_fill_16 (by decide) ?_
  refine av_idiv K d_T_fill_18 (by decide) ?_
  refine av_max K ml_T_35 sm_JM_max in_JM co_JM_max (Nat.le_of_ble_eq_true rfl) (Nat.le_of_ble_eq_true rfl) (Nat.zero_le _) (Nat.zero_le _) d_T_fill_19 ?_
  obtain ⟨w4, ew4, h⟩ := hp_bd h
  refine hv_pi K fp_T_24 d_T_fill_22 ew4 ?_
  refine av_aload_n K d_T_fill_25 rfl rfl ?_
  refine av_bipush (v := (16 : Int32)) K d_T_fill_26 (by decide) ?_
  refine av_iload_n K d_T_fill_28 rfl rfl ?_
  refine av_iadd K d_T_fill_29 ?_
  obtain ⟨w5, ew5, h⟩ := hp_bd h
  refine hv_pi K fp_T_27 d_T_fill_30 ew5 ?_
  refine av_iconst (v := (0 : Int32)) K d_T_fill_33 (by decide) ?_
  refine av_istore (L' := [some (.ref v0), some (.ref v1), some (.ref v2), some (.int v3), some (.int v4), some (.int (0 : Int32))]) K d_T_fill_34 (Nat.le_of_ble_eq_true rfl) rfl ?_
  refine hv_fg (L' := [some (.ref v0), some (.ref v1), some (.ref v2), none, some (.int v4), some (.int (0 : Int32))]) [3] rfl ?_
  exact v_T_fill_36 K G hr fu fu (v0) (v1) (v2) (v4) ((0 : Int32)) _ h
end
set_option maxRecDepth 100000 in
theorem c_T_fill {l : Launch} {D : va_G} {ca : Nat → Nat} {tab : Nat → Int64} {fu : Nat} {v0 : Nat} {v1 : Nat} {v2 : Nat} {v3 : Int32} {v4 : Int32} {w : List va_E} {r : List va_E} (h : f_T_fill fu v0 v1 v2 v3 v4 w = some r) : av_Cv l D cl8 ca NS tabON y_T_fill w_T_fill rm_T_fill [.ref v0, .ref v1, .ref v2, .int v3, .int v4] w (fun u => u = r) :=
  av_inV (cc := b_T_fill) (nL := 6) (by decide +kernel) rfl (Nat.le_of_ble_eq_true rfl) (fun p e s m args below meth c A ad K G hr => v_T_fill K G hr fu v0 v1 v2 v3 v4 w h)

-- FaultTreeDesk$Truth.isTrue(I)Z
theorem d_T_isTrue_0 : decode b_T_isTrue 0 = .ok (.iload_n 1, 1) := by decide +kernel
theorem d_T_isTrue_1 : decode b_T_isTrue 1 = .ok (.aload_n 0, 1) := by decide +kernel
theorem d_T_isTrue_2 : decode b_T_isTrue 2 = .ok (.getfield 20, 3) := by decide +kernel
theorem d_T_isTrue_5 : decode b_T_isTrue 5 = .ok (.iconst 1, 1) := by decide +kernel
theorem d_T_isTrue_6 : decode b_T_isTrue 6 = .ok (.isub, 1) := by decide +kernel
theorem d_T_isTrue_7 : decode b_T_isTrue 7 = .ok (.iand, 1) := by decide +kernel
theorem d_T_isTrue_8 : decode b_T_isTrue 8 = .ok (.istore_n 2, 1) := by decide +kernel
theorem d_T_isTrue_9 : decode b_T_isTrue 9 = .ok (.aload_n 0, 1) := by decide +kernel
theorem d_T_isTrue_10 : decode b_T_isTrue 10 = .ok (.getfield 11, 3) := by decide +kernel
theorem d_T_isTrue_13 : decode b_T_isTrue 13 = .ok (.aload_n 0, 1) := by decide +kernel
theorem d_T_isTrue_14 : decode b_T_isTrue 14 = .ok (.getfield 27, 3) := by decide +kernel
theorem d_T_isTrue_17 : decode b_T_isTrue 17 = .ok (.aaload, 1) := by decide +kernel
theorem d_T_isTrue_18 : decode b_T_isTrue 18 = .ok (.iload_n 2, 1) := by decide +kernel
theorem d_T_isTrue_19 : decode b_T_isTrue 19 = .ok (.bipush 64, 2) := by decide +kernel
theorem d_T_isTrue_21 : decode b_T_isTrue 21 = .ok (.idiv, 1) := by decide +kernel
theorem d_T_isTrue_22 : decode b_T_isTrue 22 = .ok (.laload, 1) := by decide +kernel
theorem d_T_isTrue_23 : decode b_T_isTrue 23 = .ok (.iload_n 2, 1) := by decide +kernel
theorem d_T_isTrue_24 : decode b_T_isTrue 24 = .ok (.bipush 64, 2) := by decide +kernel
theorem d_T_isTrue_26 : decode b_T_isTrue 26 = .ok (.irem, 1) := by decide +kernel
theorem d_T_isTrue_27 : decode b_T_isTrue 27 = .ok (.lushr, 1) := by decide +kernel
theorem d_T_isTrue_28 : decode b_T_isTrue 28 = .ok (.lconst 1, 1) := by decide +kernel
theorem d_T_isTrue_29 : decode b_T_isTrue 29 = .ok (.land, 1) := by decide +kernel
theorem d_T_isTrue_30 : decode b_T_isTrue 30 = .ok (.lconst 0, 1) := by decide +kernel
theorem d_T_isTrue_31 : decode b_T_isTrue 31 = .ok (.lcmp, 1) := by decide +kernel
theorem d_T_isTrue_32 : decode b_T_isTrue 32 = .ok (.ifCond .eq 7, 3) := by decide +kernel
theorem d_T_isTrue_35 : decode b_T_isTrue 35 = .ok (.iconst 1, 1) := by decide +kernel
theorem d_T_isTrue_36 : decode b_T_isTrue 36 = .ok (.goto 4, 3) := by decide +kernel
theorem d_T_isTrue_39 : decode b_T_isTrue 39 = .ok (.iconst 0, 1) := by decide +kernel
theorem d_T_isTrue_40 : decode b_T_isTrue 40 = .ok (.ireturn, 1) := by decide +kernel
def rm_T_isTrue : Room := { frames := 0, cells := 0, slots := 0, locals := 0 }
def f_T_isTrue_40 (fu : Nat) (s0 : Int32) (w : List va_E) : Option (Int32 × List va_E) := (if s0 = 0 ∨ s0 = 1 then some (s0, w) else none)
def f_T_isTrue (fu : Nat) (v0 : Nat) (v1 : Int32) (w : List va_E) : Option (Int32 × List va_E) := ((hp_gi w v0 5 2).bind fun x1 => ((hp_gr w v0 5 0).bind fun q2 => ((hp_gi w v0 5 4).bind fun x3 => ((hp_ra w q2 x3).bind fun q4 => ((hp_rl w q4 ((v1 &&& (x1 - (1 : Int32))) / (64 : Int32))).bind fun y5 => (if (lg_cmp (((y5).toUInt64 >>> ((((v1 &&& (x1 - (1 : Int32))) - (v1 &&& (x1 - (1 : Int32))) / (64 : Int32) * (64 : Int32))).toInt64.toUInt64 &&& Int64.toUInt64 63)).toInt64 &&& (1 : Int64)) (0 : Int64)) = 0 then (f_T_isTrue_40 fu ((0 : Int32)) w) else (f_T_isTrue_40 fu ((1 : Int32)) w)))))))
section
variable {p : Program} {l : Launch} {e : Env} {s : State} {m : MethodId} {args : Array Value} {below : List Frame} {meth : Method} {c : Code} {D : va_G} {ca : Nat → Nat} {A : Nat → Prop} {ad : Nat → Nat}
set_option maxRecDepth 100000 in
set_option maxHeartbeats 4000000 in
theorem v_T_isTrue_40 (K : av_K p s m args meth c D cl8 ca A b_T_isTrue 3 R_T WS) (G : av_G NS tabON A s s.heap) (hr : meth.sig.returnType = some .boolean) (fu : Nat) {r : Int32 × List va_E} (s0 : Int32) (w : List va_E) (h : f_T_isTrue_40 fu s0 w = some r) : av_VI p l e rm_T_isTrue s m args below meth c D cl8 A ad ca 3 r 40 [none, none, none] [.int s0] w := by
  unfold f_T_isTrue_40 at h
  obtain ⟨hz, h⟩ := hp_if h
  obtain rfl := Option.some.inj h
  exact av_zreturn K hr (hp_nz hz) d_T_isTrue_40 rfl
set_option maxRecDepth 100000 in
set_option maxHeartbeats 4000000 in
theorem v_T_isTrue (K : av_K p s m args meth c D cl8 ca A b_T_isTrue 3 R_T WS) (G : av_G NS tabON A s s.heap) (hr : meth.sig.returnType = some .boolean) (fu : Nat) {r : Int32 × List va_E} (v0 : Nat) (v1 : Int32) (w : List va_E) (h : f_T_isTrue fu v0 v1 w = some r) : av_VI p l e rm_T_isTrue s m args below meth c D cl8 A ad ca 3 r 0 [some (.ref v0), some (.int v1), none] [] w := by
  unfold f_T_isTrue at h
  refine av_iload_n K d_T_isTrue_0 rfl rfl ?_
  refine av_aload_n K d_T_isTrue_1 rfl rfl ?_
  obtain ⟨x1, ex1, h⟩ := hp_bd h
  refine hv_gi K fl_T_20 d_T_isTrue_2 ex1 ?_
  refine av_iconst (v := (1 : Int32)) K d_T_isTrue_5 (by decide) ?_
  refine av_isub K d_T_isTrue_6 ?_
  refine av_iand K d_T_isTrue_7 ?_
  refine av_istore_n (L' := [some (.ref v0), some (.int v1), some (.int (v1 &&& (x1 - (1 : Int32))))]) K d_T_isTrue_8 rfl (Nat.le_of_ble_eq_true rfl) rfl ?_
  refine av_aload_n K d_T_isTrue_9 rfl rfl ?_
  obtain ⟨q2, eq2, h⟩ := hp_bd h
  refine hv_gr K fl_T_11 d_T_isTrue_10 eq2 ?_
  refine av_aload_n K d_T_isTrue_13 rfl rfl ?_
  obtain ⟨x3, ex3, h⟩ := hp_bd h
  refine hv_gi K fl_T_27 d_T_isTrue_14 ex3 ?_
  obtain ⟨q4, eq4, h⟩ := hp_bd h
  refine hv_ra K d_T_isTrue_17 eq4 ?_
  refine av_iload_n K d_T_isTrue_18 rfl rfl ?_
  refine av_bipush (v := (64 : Int32)) K d_T_isTrue_19 (by decide) ?_
  refine av_idiv K d_T_isTrue_21 (by decide) ?_
  obtain ⟨y5, ey5, h⟩ := hp_bd h
  refine hv_rl K d_T_isTrue_22 ey5 ?_
  refine av_iload_n K d_T_isTrue_23 rfl rfl ?_
  refine av_bipush (v := (64 : Int32)) K d_T_isTrue_24 (by decide) ?_
  refine av_irem K d_T_isTrue_26 (by decide) ?_
  refine av_lushr K d_T_isTrue_27 ?_
  refine av_lconst (v := (1 : Int64)) K d_T_isTrue_28 (by decide) ?_
  refine av_land K d_T_isTrue_29 ?_
  refine av_lconst (v := (0 : Int64)) K d_T_isTrue_30 (by decide) ?_
  refine av_lcmp K d_T_isTrue_31 ?_
  refine av_if_eq (tgt := 39) K d_T_isTrue_32 rfl (fun hc => ?_) (fun hc => ?_)
  · rw [if_pos hc] at h
    refine av_iconst (v := (0 : Int32)) K d_T_isTrue_39 (by decide) ?_
    refine hv_fg (L' := [none, none, none]) [0, 1, 2] rfl ?_
    exact v_T_isTrue_40 K G hr fu ((0 : Int32)) _ h
  · rw [if_neg hc] at h
    refine av_iconst (v := (1 : Int32)) K d_T_isTrue_35 (by decide) ?_
    refine av_goto (tgt := 40) K d_T_isTrue_36 rfl ?_
    refine hv_fg (L' := [none, none, none]) [0, 1, 2] rfl ?_
    exact v_T_isTrue_40 K G hr fu ((1 : Int32)) _ h
end
set_option maxRecDepth 100000 in
theorem c_T_isTrue {l : Launch} {D : va_G} {ca : Nat → Nat} {tab : Nat → Int64} {fu : Nat} {v0 : Nat} {v1 : Int32} {w : List va_E} {r : Int32 × List va_E} (h : f_T_isTrue fu v0 v1 w = some r) : av_Ci l D cl8 ca NS tabON y_T_isTrue w_T_isTrue rm_T_isTrue [.ref v0, .int v1] w (fun v u => (v, u) = r) :=
  av_inI (cc := b_T_isTrue) (nL := 3) (by decide +kernel) rfl (Nat.le_of_ble_eq_true rfl) (fun p e s m args below meth c A ad K G hr => v_T_isTrue K G hr fu v0 v1 w h)
