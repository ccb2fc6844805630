-- FaultTreeDesk$Diagram.numberOf(III)I
theorem d_D_numberOf_0 : decode b_D_numberOf 0 = .ok (.iload_n 1, 1) := by decide +kernel
theorem d_D_numberOf_1 : decode b_D_numberOf 1 = .ok (.iload_n 2, 1) := by decide +kernel
theorem d_D_numberOf_2 : decode b_D_numberOf 2 = .ok (.if_icmp .ne 5, 3) := by decide +kernel
theorem d_D_numberOf_5 : decode b_D_numberOf 5 = .ok (.iload_n 1, 1) := by decide +kernel
theorem d_D_numberOf_6 : decode b_D_numberOf 6 = .ok (.ireturn, 1) := by decide +kernel
theorem d_D_numberOf_7 : decode b_D_numberOf 7 = .ok (.iload_n 1, 1) := by decide +kernel
theorem d_D_numberOf_8 : decode b_D_numberOf 8 = .ok (.iconst 2, 1) := by decide +kernel
theorem d_D_numberOf_9 : decode b_D_numberOf 9 = .ok (.imul, 1) := by decide +kernel
theorem d_D_numberOf_10 : decode b_D_numberOf 10 = .ok (.sipush 1024, 3) := by decide +kernel
theorem d_D_numberOf_13 : decode b_D_numberOf 13 = .ok (.imul, 1) := by decide +kernel
theorem d_D_numberOf_14 : decode b_D_numberOf 14 = .ok (.iload_n 2, 1) := by decide +kernel
theorem d_D_numberOf_15 : decode b_D_numberOf 15 = .ok (.iadd, 1) := by decide +kernel
theorem d_D_numberOf_16 : decode b_D_numberOf 16 = .ok (.istore 4, 2) := by decide +kernel
theorem d_D_numberOf_18 : decode b_D_numberOf 18 = .ok (.iload_n 3, 1) := by decide +kernel
theorem d_D_numberOf_19 : decode b_D_numberOf 19 = .ok (.istore 5, 2) := by decide +kernel
theorem d_D_numberOf_21 : decode b_D_numberOf 21 = .ok (.iload 5, 2) := by decide +kernel
theorem d_D_numberOf_23 : decode b_D_numberOf 23 = .ok (.aload_n 0, 1) := by decide +kernel
theorem d_D_numberOf_24 : decode b_D_numberOf 24 = .ok (.getfield 18, 3) := by decide +kernel
theorem d_D_numberOf_27 : decode b_D_numberOf 27 = .ok (.if_icmp .ge 26, 3) := by decide +kernel
theorem d_D_numberOf_30 : decode b_D_numberOf 30 = .ok (.aload_n 0, 1) := by decide +kernel
theorem d_D_numberOf_31 : decode b_D_numberOf 31 = .ok (.getfield 15, 3) := by decide +kernel
theorem d_D_numberOf_34 : decode b_D_numberOf 34 = .ok (.iload 5, 2) := by decide +kernel
theorem d_D_numberOf_36 : decode b_D_numberOf 36 = .ok (.iaload, 1) := by decide +kernel
theorem d_D_numberOf_37 : decode b_D_numberOf 37 = .ok (.iload 4, 2) := by decide +kernel
theorem d_D_numberOf_39 : decode b_D_numberOf 39 = .ok (.if_icmp .ne 8, 3) := by decide +kernel
theorem d_D_numberOf_42 : decode b_D_numberOf 42 = .ok (.iconst 2, 1) := by decide +kernel
theorem d_D_numberOf_43 : decode b_D_numberOf 43 = .ok (.iload 5, 2) := by decide +kernel
theorem d_D_numberOf_45 : decode b_D_numberOf 45 = .ok (.iadd, 1) := by decide +kernel
theorem d_D_numberOf_46 : decode b_D_numberOf 46 = .ok (.ireturn, 1) := by decide +kernel
theorem d_D_numberOf_47 : decode b_D_numberOf 47 = .ok (.iinc 5 1, 3) := by decide +kernel
theorem d_D_numberOf_50 : decode b_D_numberOf 50 = .ok (.goto (-29), 3) := by decide +kernel
theorem d_D_numberOf_53 : decode b_D_numberOf 53 = .ok (.aload_n 0, 1) := by decide +kernel
theorem d_D_numberOf_54 : decode b_D_numberOf 54 = .ok (.getfield 15, 3) := by decide +kernel
theorem d_D_numberOf_57 : decode b_D_numberOf 57 = .ok (.aload_n 0, 1) := by decide +kernel
theorem d_D_numberOf_58 : decode b_D_numberOf 58 = .ok (.getfield 18, 3) := by decide +kernel
theorem d_D_numberOf_61 : decode b_D_numberOf 61 = .ok (.iload 4, 2) := by decide +kernel
theorem d_D_numberOf_63 : decode b_D_numberOf 63 = .ok (.iastore, 1) := by decide +kernel
theorem d_D_numberOf_64 : decode b_D_numberOf 64 = .ok (.aload_n 0, 1) := by decide +kernel
theorem d_D_numberOf_65 : decode b_D_numberOf 65 = .ok (.dup, 1) := by decide +kernel
theorem d_D_numberOf_66 : decode b_D_numberOf 66 = .ok (.getfield 18, 3) := by decide +kernel
theorem d_D_numberOf_69 : decode b_D_numberOf 69 = .ok (.iconst 1, 1) := by decide +kernel
theorem d_D_numberOf_70 : decode b_D_numberOf 70 = .ok (.iadd, 1) := by decide +kernel
theorem d_D_numberOf_71 : decode b_D_numberOf 71 = .ok (.putfield 18, 3) := by decide +kernel
theorem d_D_numberOf_74 : decode b_D_numberOf 74 = .ok (.iconst 1, 1) := by decide +kernel
theorem d_D_numberOf_75 : decode b_D_numberOf 75 = .ok (.aload_n 0, 1) := by decide +kernel
theorem d_D_numberOf_76 : decode b_D_numberOf 76 = .ok (.getfield 18, 3) := by decide +kernel
theorem d_D_numberOf_79 : decode b_D_numberOf 79 = .ok (.iadd, 1) := by decide +kernel
theorem d_D_numberOf_80 : decode b_D_numberOf 80 = .ok (.ireturn, 1) := by decide +kernel
def rm_D_numberOf : Room := { frames := 0, cells := 0, slots := 0, locals := 0 }
def f_D_numberOf_21 (fu : Nat) : Nat → Nat → Int32 → Int32 → List va_E → Option (Int32 × List va_E)
  | 0, _, _, _, _ => none
  | n + 1, v0, v4, v5, w => ((hp_gi w v0 0 2).bind fun x1 => (if x1 ≤ v5 then ((hp_gr w v0 0 1).bind fun q2 => ((hp_gi w v0 0 2).bind fun x3 => ((hp_wi w q2 x3 v4).bind fun w4 => ((hp_gi w4 v0 0 2).bind fun x5 => ((hp_pi w4 v0 0 2 (x5 + (1 : Int32))).bind fun w6 => ((hp_gi w6 v0 0 2).bind fun x7 => (some (((1 : Int32) + x7), w6)))))))) else ((hp_gr w v0 0 1).bind fun q8 => ((hp_ri w q8 v5).bind fun x9 => (if x9 = v4 then (some (((2 : Int32) + v5), w)) else (f_D_numberOf_21 fu n (v0) (v4) ((v5 + (1 : Int32))) w))))))
def f_D_numberOf (fu : Nat) (v0 : Nat) (v1 : Int32) (v2 : Int32) (v3 : Int32) (w : List va_E) : Option (Int32 × List va_E) := (if v1 = v2 then (some (v1, w)) else (f_D_numberOf_21 fu fu (v0) ((((v1 * (2 : Int32)) * (1024 : Int32)) + v2)) (v3) w))
section
variable {p : Program} {l : Launch} {e : Env} {s : State} {m : MethodId} {args : Array Value} {below : List Frame} {meth : Method} {c : Code} {D : va_G} {ca : Nat → Nat} {A : Nat → Prop} {ad : Nat → Nat}
set_option maxRecDepth 100000 in
set_option maxHeartbeats 4000000 in
theorem v_D_numberOf_21 (K : av_K p s m args meth c D cl8 ca A b_D_numberOf 6 R_D WS) (G : av_G NS tabON A s s.heap) (hr : meth.sig.returnType = some .int) (fu : Nat) {r : Int32 × List va_E} : ∀ (n : Nat) (v0 : Nat) (v4 : Int32) (v5 : Int32) (w : List va_E), f_D_numberOf_21 fu n v0 v4 v5 w = some r → av_VI p l e rm_D_numberOf s m args below meth c D cl8 A ad ca 6 r 21 [some (.ref v0), none, none, none, some (.int v4), some (.int v5)] [] w := by
  intro n
  induction n with
  | zero => intro _ _ _ _ h; cases h
  | succ n ih =>
    intro v0 v4 v5 w h
    unfold f_D_numberOf_21 at h
    refine av_iload K d_D_numberOf_21 rfl ?_
    refine av_aload_n K d_D_numberOf_23 rfl rfl ?_
    obtain ⟨x1, ex1, h⟩ := hp_bd h
    refine hv_gi K fl_D_18 d_D_numberOf_24 ex1 ?_
    refine av_icmp_ge (tgt := 53) K d_D_numberOf_27 rfl (fun hc => ?_) (fun hc => ?_)
    · rw [if_pos hc] at h
      refine av_aload_n K d_D_numberOf_53 rfl rfl ?_
      obtain ⟨q2, eq2, h⟩ := hp_bd h
      refine hv_gr K fl_D_15 d_D_numberOf_54 eq2 ?_
      refine av_aload_n K d_D_numberOf_57 rfl rfl ?_
      obtain ⟨x3, ex3, h⟩ := hp_bd h
      refine hv_gi K fl_D_18 d_D_numberOf_58 ex3 ?_
      refine av_iload K d_D_numberOf_61 rfl ?_
      obtain ⟨w4, ew4, h⟩ := hp_bd h
      refine hv_wi K d_D_numberOf_63 ew4 ?_
      refine av_aload_n K d_D_numberOf_64 rfl rfl ?_
      refine av_dup K d_D_numberOf_65 rfl ?_
      obtain ⟨x5, ex5, h⟩ := hp_bd h
      refine hv_gi K fl_D_18 d_D_numberOf_66 ex5 ?_
      refine av_iconst (v := (1 : Int32)) K d_D_numberOf_69 (by decide) ?_
      refine av_iadd K d_D_numberOf_70 ?_
      obtain ⟨w6, ew6, h⟩ := hp_bd h
      refine hv_pi K fp_D_18 d_D_numberOf_71 ew6 ?_
      refine av_iconst (v := (1 : Int32)) K d_D_numberOf_74 (by decide) ?_
      refine av_aload_n K d_D_numberOf_75 rfl rfl ?_
      obtain ⟨x7, ex7, h⟩ := hp_bd h
      refine hv_gi K fl_D_18 d_D_numberOf_76 ex7 ?_
      refine av_iadd K d_D_numberOf_79 ?_
      obtain rfl := Option.some.inj h
      exact av_ireturn K hr d_D_numberOf_80 rfl
    · rw [if_neg hc] at h
      refine av_aload_n K d_D_numberOf_30 rfl rfl ?_
      obtain ⟨q8, eq8, h⟩ := hp_bd h
      refine hv_gr K fl_D_15 d_D_numberOf_31 eq8 ?_
      refine av_iload K d_D_numberOf_34 rfl ?_
      obtain ⟨x9, ex9, h⟩ := hp_bd h
      refine hv_ri K d_D_numberOf_36 ex9 ?_
      refine av_iload K d_D_numberOf_37 rfl ?_
      refine av_icmp_ne (tgt := 47) K d_D_numberOf_39 rfl (fun hc => ?_) (fun hc => ?_)
      · rw [if_neg hc] at h
        refine av_iinc (v := (v5 + (1 : Int32))) (L' := [some (.ref v0), none, none, none, some (.int v4), some (.int (v5 + (1 : Int32)))]) K d_D_numberOf_47 rfl (congrArg (fun z => v5 + z) (show Int32.ofInt 1 = (1 : Int32) by decide)) (Nat.le_of_ble_eq_true rfl) rfl ?_
        refine av_goto (tgt := 21) K d_D_numberOf_50 rfl ?_
        exact ih (v0) (v4) ((v5 + (1 : Int32))) _ h
      · rw [if_pos hc] at h
        refine av_iconst (v := (2 : Int32)) K d_D_numberOf_42 (by decide) ?_
        refine av_iload K d_D_numberOf_43 rfl ?_
        refine av_iadd K d_D_numberOf_45 ?_
        obtain rfl := Option.some.inj h
        exact av_ireturn K hr d_D_numberOf_46 rfl
set_option maxRecDepth 100000 in
set_option maxHeartbeats 4000000 in
theorem v_D_numberOf (K : av_K p s m args meth c D cl8 ca A b_D_numberOf 6 R_D WS) (G : av_G NS tabON A s s.heap) (hr : meth.sig.returnType = some .int) (fu : Nat) {r : Int32 × List va_E} (v0 : Nat) (v1 : Int32) (v2 : Int32) (v3 : Int32) (w : List va_E) (h : f_D_numberOf fu v0 v1 v2 v3 w = some r) : av_VI p l e rm_D_numberOf s m args below meth c D cl8 A ad ca 6 r 0 [some (.ref v0), some (.int v1), some (.int v2), some (.int v3), none, none] [] w := by
  unfold f_D_numberOf at h
  refine av_iload_n K d_D_numberOf_0 rfl rfl ?_
  refine av_iload_n K d_D_numberOf_1 rfl rfl ?_
  refine av_icmp_ne (tgt := 7) K d_D_numberOf_2 rfl (fun hc => ?_) (fun hc => ?_)
  · rw [if_neg hc] at h
    refine av_iload_n K d_D_numberOf_7 rfl rfl ?_
    refine av_iconst (v := (2 : Int32)) K d_D_numberOf_8 (by decide) ?_
    refine av_imul K d_D_numberOf_9 ?_
    refine av_sipush (v := (1024 : Int32)) K d_D_numberOf_10 (by decide) ?_
    refine av_imul K d_D_numberOf_13 ?_
    refine av_iload_n K d_D_numberOf_14 rfl rfl ?_
    refine av_iadd K d_D_numberOf_15 ?_
    refine av_istore (L' := [some (.ref v0), some (.int v1), some (.int v2), some (.int v3), some (.int (((v1 * (2 : Int32)) * (1024 : Int32)) + v2)), none]) K d_D_numberOf_16 (Nat.le_of_ble_eq_true rfl) rfl ?_
    refine av_iload_n K d_D_numberOf_18 rfl rfl ?_
    refine av_istore (L' := [some (.ref v0), some (.int v1), some (.int v2), some (.int v3), some (.int (((v1 * (2 : Int32)) * (1024 : Int32)) + v2)), some (.int v3)]) K d_D_numberOf_19 (Nat.le_of_ble_eq_true rfl) rfl ?_
    refine hv_fg (L' := [some (.ref v0), none, none, none, some (.int (((v1 * (2 : Int32)) * (1024 : Int32)) + v2)), some (.int v3)]) [1, 2, 3] rfl ?_
    exact v_D_numberOf_21 K G hr fu fu (v0) ((((v1 * (2 : Int32)) * (1024 : Int32)) + v2)) (v3) _ h
  · rw [if_pos hc] at h
    refine av_iload_n K d_D_numberOf_5 rfl rfl ?_
    obtain rfl := Option.some.inj h
    exact av_ireturn K hr d_D_numberOf_6 rfl
end
set_option maxRecDepth 100000 in
theorem c_D_numberOf {l : Launch} {D : va_G} {ca : Nat → Nat} {tab : Nat → Int64} {fu : Nat} {v0 : Nat} {v1 : Int32} {v2 : Int32} {v3 : Int32} {w : List va_E} {r : Int32 × List va_E} (h : f_D_numberOf fu v0 v1 v2 v3 w = some r) : av_Ci l D cl8 ca NS tabON y_D_numberOf w_D_numberOf rm_D_numberOf [.ref v0, .int v1, .int v2, .int v3] w (fun v u => (v, u) = r) :=
  av_inI (cc := b_D_numberOf) (nL := 6) (by decide +kernel) rfl (Nat.le_of_ble_eq_true rfl) (fun p e s m args below meth c A ad K G hr => v_D_numberOf K G hr fu v0 v1 v2 v3 w h)

-- FaultTreeDesk$Diagram.countNodes(LFaultTreeDesk$Truth;I)I
theorem d_D_countNodes_0 : decode b_D_countNodes 0 = .ok (.iconst 1, 1) := by decide +kernel
theorem d_D_countNodes_1 : decode b_D_countNodes 1 = .ok (.iload_n 2, 1) := by decide +kernel
theorem d_D_countNodes_2 : decode b_D_countNodes 2 = .ok (.ishl, 1) := by decide +kernel
theorem d_D_countNodes_3 : decode b_D_countNodes 3 = .ok (.istore_n 3, 1) := by decide +kernel
theorem d_D_countNodes_4 : decode b_D_countNodes 4 = .ok (.aload_n 0, 1) := by decide +kernel
theorem d_D_countNodes_5 : decode b_D_countNodes 5 = .ok (.iconst 0, 1) := by decide +kernel
theorem d_D_countNodes_6 : decode b_D_countNodes 6 = .ok (.putfield 18, 3) := by decide +kernel
theorem d_D_countNodes_9 : decode b_D_countNodes 9 = .ok (.iconst 0, 1) := by decide +kernel
theorem d_D_countNodes_10 : decode b_D_countNodes 10 = .ok (.istore 4, 2) := by decide +kernel
theorem d_D_countNodes_12 : decode b_D_countNodes 12 = .ok (.iload 4, 2) := by decide +kernel
theorem d_D_countNodes_14 : decode b_D_countNodes 14 = .ok (.iload_n 3, 1) := by decide +kernel
theorem d_D_countNodes_15 : decode b_D_countNodes 15 = .ok (.if_icmp .ge 30, 3) := by decide +kernel
theorem d_D_countNodes_18 : decode b_D_countNodes 18 = .ok (.aload_n 0, 1) := by decide +kernel
theorem d_D_countNodes_19 : decode b_D_countNodes 19 = .ok (.getfield 9, 3) := by decide +kernel
theorem d_D_countNodes_22 : decode b_D_countNodes 22 = .ok (.iload 4, 2) := by decide +kernel
theorem d_D_countNodes_24 : decode b_D_countNodes 24 = .ok (.aload_n 1, 1) := by decide +kernel
theorem d_D_countNodes_25 : decode b_D_countNodes 25 = .ok (.iload 4, 2) := by decide +kernel
theorem d_D_countNodes_27 : decode b_D_countNodes 27 = .ok (.invokevirtual 22, 3) := by decide +kernel
theorem d_D_countNodes_30 : decode b_D_countNodes 30 = .ok (.ifCond .eq 7, 3) := by decide +kernel
theorem d_D_countNodes_33 : decode b_D_countNodes 33 = .ok (.iconst 1, 1) := by decide +kernel
theorem d_D_countNodes_34 : decode b_D_countNodes 34 = .ok (.goto 4, 3) := by decide +kernel
theorem d_D_countNodes_37 : decode b_D_countNodes 37 = .ok (.iconst 0, 1) := by decide +kernel
theorem d_D_countNodes_38 : decode b_D_countNodes 38 = .ok (.iastore, 1) := by decide +kernel
theorem d_D_countNodes_39 : decode b_D_countNodes 39 = .ok (.iinc 4 1, 3) := by decide +kernel
theorem d_D_countNodes_42 : decode b_D_countNodes 42 = .ok (.goto (-30), 3) := by decide +kernel
theorem d_D_countNodes_45 : decode b_D_countNodes 45 = .ok (.iconst 0, 1) := by decide +kernel
theorem d_D_countNodes_46 : decode b_D_countNodes 46 = .ok (.istore 4, 2) := by decide +kernel
theorem d_D_countNodes_48 : decode b_D_countNodes 48 = .ok (.iload 4, 2) := by decide +kernel
theorem d_D_countNodes_50 : decode b_D_countNodes 50 = .ok (.iload_n 2, 1) := by decide +kernel
theorem d_D_countNodes_51 : decode b_D_countNodes 51 = .ok (.if_icmp .ge 67, 3) := by decide +kernel
theorem d_D_countNodes_54 : decode b_D_countNodes 54 = .ok (.aload_n 0, 1) := by decide +kernel
theorem d_D_countNodes_55 : decode b_D_countNodes 55 = .ok (.getfield 18, 3) := by decide +kernel
theorem d_D_countNodes_58 : decode b_D_countNodes 58 = .ok (.istore 5, 2) := by decide +kernel
theorem d_D_countNodes_60 : decode b_D_countNodes 60 = .ok (.iload_n 3, 1) := by decide +kernel
theorem d_D_countNodes_61 : decode b_D_countNodes 61 = .ok (.iconst 2, 1) := by decide +kernel
theorem d_D_countNodes_62 : decode b_D_countNodes 62 = .ok (.idiv, 1) := by decide +kernel
theorem d_D_countNodes_63 : decode b_D_countNodes 63 = .ok (.istore_n 3, 1) := by decide +kernel
theorem d_D_countNodes_64 : decode b_D_countNodes 64 = .ok (.iconst 0, 1) := by decide +kernel
theorem d_D_countNodes_65 : decode b_D_countNodes 65 = .ok (.istore 6, 2) := by decide +kernel
theorem d_D_countNodes_67 : decode b_D_countNodes 67 = .ok (.iload 6, 2) := by decide +kernel
theorem d_D_countNodes_69 : decode b_D_countNodes 69 = .ok (.iload_n 3, 1) := by decide +kernel
theorem d_D_countNodes_70 : decode b_D_countNodes 70 = .ok (.if_icmp .ge 42, 3) := by decide +kernel
theorem d_D_countNodes_73 : decode b_D_countNodes 73 = .ok (.aload_n 0, 1) := by decide +kernel
theorem d_D_countNodes_74 : decode b_D_countNodes 74 = .ok (.getfield 9, 3) := by decide +kernel
theorem d_D_countNodes_77 : decode b_D_countNodes 77 = .ok (.iload 6, 2) := by decide +kernel
theorem d_D_countNodes_79 : decode b_D_countNodes 79 = .ok (.aload_n 0, 1) := by decide +kernel
theorem d_D_countNodes_80 : decode b_D_countNodes 80 = .ok (.aload_n 0, 1) := by decide +kernel
theorem d_D_countNodes_81 : decode b_D_countNodes 81 = .ok (.getfield 9, 3) := by decide +kernel
theorem d_D_countNodes_84 : decode b_D_countNodes 84 = .ok (.iconst 2, 1) := by decide +kernel
theorem d_D_countNodes_85 : decode b_D_countNodes 85 = .ok (.iload 6, 2) := by decide +kernel
theorem d_D_countNodes_87 : decode b_D_countNodes 87 = .ok (.imul, 1) := by decide +kernel
theorem d_D_countNodes_88 : decode b_D_countNodes 88 = .ok (.iaload, 1) := by decide +kernel
theorem d_D_countNodes_89 : decode b_D_countNodes 89 = .ok (.aload_n 0, 1) := by decide +kernel
theorem d_D_countNodes_90 : decode b_D_countNodes 90 = .ok (.getfield 9, 3) := by decide +kernel
theorem d_D_countNodes_93 : decode b_D_countNodes 93 = .ok (.iconst 2, 1) := by decide +kernel
theorem d_D_countNodes_94 : decode b_D_countNodes 94 = .ok (.iload 6, 2) := by decide +kernel
theorem d_D_countNodes_96 : decode b_D_countNodes 96 = .ok (.imul, 1) := by decide +kernel
theorem d_D_countNodes_97 : decode b_D_countNodes 97 = .ok (.iconst 1, 1) := by decide +kernel
theorem d_D_countNodes_98 : decode b_D_countNodes 98 = .ok (.iadd, 1) := by decide +kernel
theorem d_D_countNodes_99 : decode b_D_countNodes 99 = .ok (.iaload, 1) := by decide +kernel
theorem d_D_countNodes_100 : decode b_D_countNodes 100 = .ok (.iload 5, 2) := by decide +kernel
theorem d_D_countNodes_102 : decode b_D_countNodes 102 = .ok (.invokevirtual 28, 3) := by decide +kernel
theorem d_D_countNodes_105 : decode b_D_countNodes 105 = .ok (.iastore, 1) := by decide +kernel
theorem d_D_countNodes_106 : decode b_D_countNodes 106 = .ok (.iinc 6 1, 3) := by decide +kernel
theorem d_D_countNodes_109 : decode b_D_countNodes 109 = .ok (.goto (-42), 3) := by decide +kernel
theorem d_D_countNodes_112 : decode b_D_countNodes 112 = .ok (.iinc 4 1, 3) := by decide +kernel
theorem d_D_countNodes_115 : decode b_D_countNodes 115 = .ok (.goto (-67), 3) := by decide +kernel
theorem d_D_countNodes_118 : decode b_D_countNodes 118 = .ok (.aload_n 0, 1) := by decide +kernel
theorem d_D_countNodes_119 : decode b_D_countNodes 119 = .ok (.getfield 18, 3) := by decide +kernel
theorem d_D_countNodes_122 : decode b_D_countNodes 122 = .ok (.ireturn, 1) := by decide +kernel
def rm_D_countNodes : Room := { frames := 1, cells := 0, slots := 0, locals := 25 }
def f_D_countNodes_67 (fu : Nat) (k48 : Nat → Int32 → Int32 → Int32 → List va_E → Option (Int32 × List va_E)) : Nat → Nat → Int32 → Int32 → Int32 → Int32 → Int32 → List va_E → Option (Int32 × List va_E)
  | 0, _, _, _, _, _, _, _ => none
  | n + 1, v0, v2, v3, v4, v5, v6, w => (if v3 ≤ v6 then (k48 (v0) (v2) (v3) ((v4 + (1 : Int32))) w) else ((hp_gr w v0 0 0).bind fun q1 => ((hp_gr w v0 0 0).bind fun q2 => ((hp_ri w q2 ((2 : Int32) * v6)).bind fun x3 => ((hp_gr w v0 0 0).bind fun q4 => ((hp_ri w q4 (((2 : Int32) * v6) + (1 : Int32))).bind fun x5 => ((hp_is w v0 0).bind fun _ => ((f_D_numberOf fu v0 x3 x5 v5 w).bind fun r6 => ((hp_wi r6.2 q1 v6 r6.1).bind fun w7 => (f_D_countNodes_67 fu k48 n (v0) (v2) (v3) (v4) (v5) ((v6 + (1 : Int32))) w7))))))))))
def f_D_countNodes_48 (fu : Nat) : Nat → Nat → Int32 → Int32 → Int32 → List va_E → Option (Int32 × List va_E)
  | 0, _, _, _, _, _ => none
  | n + 1, v0, v2, v3, v4, w => (if v2 ≤ v4 then ((hp_gi w v0 0 2).bind fun x1 => (some (x1, w))) else ((hp_gi w v0 0 2).bind fun x2 => (f_D_countNodes_67 fu (f_D_countNodes_48 fu n) fu (v0) (v2) ((v3 / (2 : Int32))) (v4) (x2) ((0 : Int32)) w)))
def f_D_countNodes_38 (fu : Nat) (k12 : Nat → Nat → Int32 → Int32 → Int32 → List va_E → Option (Int32 × List va_E)) (v0 : Nat) (v1 : Nat) (v2 : Int32) (v3 : Int32) (v4 : Int32) (s0 : Nat) (s1 : Int32) (s2 : Int32) (w : List va_E) : Option (Int32 × List va_E) := ((hp_wi w s0 s1 s2).bind fun w1 => (k12 (v0) (v1) (v2) (v3) ((v4 + (1 : Int32))) w1))
def f_D_countNodes_12 (fu : Nat) : Nat → Nat → Nat → Int32 → Int32 → Int32 → List va_E → Option (Int32 × List va_E)
  | 0, _, _, _, _, _, _ => none
  | n + 1, v0, v1, v2, v3, v4, w => (if v3 ≤ v4 then (f_D_countNodes_48 fu fu (v0) (v2) (v3) ((0 : Int32)) w) else ((hp_gr w v0 0 0).bind fun q1 => ((hp_is w v1 5).bind fun _ => ((f_T_isTrue fu v1 v4 w).bind fun r2 => (if r2.1 = 0 then (f_D_countNodes_38 fu (f_D_countNodes_12 fu n) (v0) (v1) (v2) (v3) (v4) (q1) (v4) ((0 : Int32)) r2.2) else (f_D_countNodes_38 fu (f_D_countNodes_12 fu n) (v0) (v1) (v2) (v3) (v4) (q1) (v4) ((1 : Int32)) r2.2))))))
def f_D_countNodes (fu : Nat) (v0 : Nat) (v1 : Nat) (v2 : Int32) (w : List va_E) : Option (Int32 × List va_E) := ((hp_pi w v0 0 2 (0 : Int32)).bind fun w1 => (f_D_countNodes_12 fu fu (v0) (v1) (v2) (((1 : Int32) <<< (v2 &&& 31))) ((0 : Int32)) w1))
section
variable {p : Program} {l : Launch} {e : Env} {s : State} {m : MethodId} {args : Array Value} {below : List Frame} {meth : Method} {c : Code} {D : va_G} {ca : Nat → Nat} {A : Nat → Prop} {ad : Nat → Nat}
set_option maxRecDepth 100000 in
set_option maxHeartbeats 4000000 in
theorem v_D_countNodes_67 (K : av_K p s m args meth c D cl8 ca A b_D_countNodes 7 R_D WS) (G : av_G NS tabON A s s.heap) (hr : meth.sig.returnType = some .int) (fu : Nat) {r : Int32 × List va_E} (k48 : Nat → Int32 → Int32 → Int32 → List va_E → Option (Int32 × List va_E)) (hk48 : ∀ (v0 : Nat) (v2 : Int32) (v3 : Int32) (v4 : Int32) (w : List va_E), k48 v0 v2 v3 v4 w = some r → av_VI p l e rm_D_countNodes s m args below meth c D cl8 A ad ca 7 r 48 [some (.ref v0), none, some (.int v2), some (.int v3), some (.int v4), none, none] [] w) : ∀ (n : Nat) (v0 : Nat) (v2 : Int32) (v3 : Int32) (v4 : Int32) (v5 : Int32) (v6 : Int32) (w : List va_E), f_D_countNodes_67 fu k48 n v0 v2 v3 v4 v5 v6 w = some r → av_VI p l e rm_D_countNodes s m args below meth c D cl8 A ad ca 7 r 67 [some (.ref v0), none, some (.int v2), some (.int v3), some (.int v4), some (.int v5), some (.int v6)] [] w := by
  intro n
  induction n with
  | zero => intro _ _ _ _ _ _ _ h; cases h
  | succ n ih =>
    intro v0 v2 v3 v4 v5 v6 w h
    unfold f_D_countNodes_67 at h
    refine av_iload K d_D_countNodes_67 rfl ?_
    refine av_iload_n K d_D_countNodes_69 rfl rfl ?_
    refine av_icmp_ge (tgt := 112) K d_D_countNodes_70 rfl (fun hc => ?_) (fun hc => ?_)
    · rw [if_pos hc] at h
      refine av_iinc (v := (v4 + (1 : Int32))) (L' := [some (.ref v0), none, some (.int v2), some (.int v3), some (.int (v4 + (1 : Int32))), some (.int v5), some (.int v6)]) K d_D_countNodes_112 rfl (congrArg (fun z => v4 + z) (show Int32.ofInt 1 = (1 : Int32) by decide)) (Nat.le_of_ble_eq_true rfl) rfl ?_
      refine av_goto (tgt := 48) K d_D_countNodes_115 rfl ?_
      refine hv_fg (L' := [some (.ref v0), none, some (.int v2), some (.int v3), some (.int (v4 + (1 : Int32))), none, none]) [5, 6] rfl ?_
      exact hk48 (v0) (v2) (v3) ((v4 + (1 : Int32))) _ h
    · rw [if_neg hc] at h
      refine av_aload_n K d_D_countNodes_73 rfl rfl ?_
      obtain ⟨q1, eq1, h⟩ := hp_bd h
      refine hv_gr K fl_D_9 d_D_countNodes_74 eq1 ?_
      refine av_iload K d_D_countNodes_77 rfl ?_
      refine av_aload_n K d_D_countNodes_79 rfl rfl ?_
      refine av_aload_n K d_D_countNodes_80 rfl rfl ?_
      obtain ⟨q2, eq2, h⟩ := hp_bd h
      refine hv_gr K fl_D_9 d_D_countNodes_81 eq2 ?_
      refine av_iconst (v := (2 : Int32)) K d_D_countNodes_84 (by decide) ?_
      refine av_iload K d_D_countNodes_85 rfl ?_
      refine av_imul K d_D_countNodes_87 ?_
      obtain ⟨x3, ex3, h⟩ := hp_bd h
      refine hv_ri K d_D_countNodes_88 ex3 ?_
      refine av_aload_n K d_D_countNodes_89 rfl rfl ?_
      obtain ⟨q4, eq4, h⟩ := hp_bd h
      refine hv_gr K fl_D_9 d_D_countNodes_90 eq4 ?_
      refine av_iconst (v := (2 : Int32)) K d_D_countNodes_93 (by decide) ?_
      refine av_iload K d_D_countNodes_94 rfl ?_
      refine av_imul K d_D_countNodes_96 ?_
      refine av_iconst (v := (1 : Int32)) K d_D_countNodes_97 (by decide) ?_
      refine av_iadd K d_D_countNodes_98 ?_
      obtain ⟨x5, ex5, h⟩ := hp_bd h
      refine hv_ri K d_D_countNodes_99 ex5 ?_
      refine av_iload K d_D_countNodes_100 rfl ?_
      obtain ⟨_, eo102, h⟩ := hp_bd h
      obtain ⟨r6, er6, h⟩ := hp_bd h
      obtain ⟨fs102, ho102⟩ := hp_is_of eo102
      refine av_cVi K G (c_D_numberOf (tab := tabON) er6) (cwV 3 K.2.2.2.2.1 (gV ml_D_28 im_D_numberOf se_D_numberOf in_D co_D_numberOf) rfl rfl rfl cd_D_numberOf ⟨Nat.le_of_ble_eq_true rfl, Nat.le_of_ble_eq_true rfl⟩) rfl ho102 rfl rfl (Nat.le_of_ble_eq_true rfl) d_D_countNodes_102 ⟨Nat.zero_le _, Nat.zero_le _⟩ (fun a9 u9 h9 => ?_)
      obtain ⟨rfl, rfl⟩ : a9 = r6.1 ∧ u9 = r6.2 := ⟨congrArg Prod.fst h9, congrArg Prod.snd h9⟩
      obtain ⟨w7, ew7, h⟩ := hp_bd h
      refine hv_wi K d_D_countNodes_105 ew7 ?_
      refine av_iinc (v := (v6 + (1 : Int32))) (L' := [some (.ref v0), none, some (.int v2), some (.int v3), some (.int v4), some (.int v5), some (.int (v6 + (1 : Int32)))]) K d_D_countNodes_106 rfl (congrArg (fun z => v6 + z) (show Int32.ofInt 1 = (1 : Int32) by decide)) (Nat.le_of_ble_eq_true rfl) rfl ?_
      refine av_goto (tgt := 67) K d_D_countNodes_109 rfl ?_
      exact ih (v0) (v2) (v3) (v4) (v5) ((v6 + (1 : Int32))) _ h
set_option maxRecDepth 100000 in
set_option maxHeartbeats 4000000 in
theorem v_D_countNodes_48 (K : av_K p s m args meth c D cl8 ca A b_D_countNodes 7 R_D WS) (G : av_G NS tabON A s s.heap) (hr : meth.sig.returnType = some .int) (fu : Nat) {r : Int32 × List va_E} : ∀ (n : Nat) (v0 : Nat) (v2 : Int32) (v3 : Int32) (v4 : Int32) (w : List va_E), f_D_countNodes_48 fu n v0 v2 v3 v4 w = some r → av_VI p l e rm_D_countNodes s m args below meth c D cl8 A ad ca 7 r 48 [some (.ref v0), none, some (.int v2), some (.int v3), some (.int v4), none, none] [] w := by
  intro n
  induction n with
  | zero => intro _ _ _ _ _ h; cases h
  | succ n ih =>
    intro v0 v2 v3 v4 w h
    unfold f_D_countNodes_48 at h
    refine av_iload K d_D_countNodes_48 rfl ?_
    refine av_iload_n K d_D_countNodes_50 rfl rfl ?_
    refine av_icmp_ge (tgt := 118) K d_D_countNodes_51 rfl (fun hc => ?_) (fun hc => ?_)
    · rw [if_pos hc] at h
      refine av_aload_n K d_D_countNodes_118 rfl rfl ?_
      obtain ⟨x1, ex1, h⟩ := hp_bd h
      refine hv_gi K fl_D_18 d_D_countNodes_119 ex1 ?_
      obtain rfl := Option.some.inj h
      exact av_ireturn K hr d_D_countNodes_122 rfl
    · rw [if_neg hc] at h
      refine av_aload_n K d_D_countNodes_54 rfl rfl ?_
      obtain ⟨x2, ex2, h⟩ := hp_bd h
      refine hv_gi K fl_D_18 d_D_countNodes_55 ex2 ?_
      refine av_istore (L' := [some (.ref v0), none, some (.int v2), some (.int v3), some (.int v4), some (.int x2), none]) K d_D_countNodes_58 (Nat.le_of_ble_eq_true rfl) rfl ?_
      refine av_iload_n K d_D_countNodes_60 rfl rfl ?_
      refine av_iconst (v := (2 : Int32)) K d_D_countNodes_61 (by decide) ?_
      refine av_idiv K d_D_countNodes_62 (by decide) ?_
      refine av_istore_n (L' := [some (.ref v0), none, some (.int v2), some (.int (v3 / (2 : Int32))), some (.int v4), some (.int x2), none]) K d_D_countNodes_63 rfl (Nat.le_of_ble_eq_true rfl) rfl ?_
      refine av_iconst (v := (0 : Int32)) K d_D_countNodes_64 (by decide) ?_
      refine av_istore (L' := [some (.ref v0), none, some (.int v2), some (.int (v3 / (2 : Int32))), some (.int v4), some (.int x2), some (.int (0 : Int32))]) K d_D_countNodes_65 (Nat.le_of_ble_eq_true rfl) rfl ?_
      exact v_D_countNodes_67 K G hr fu (f_D_countNodes_48 fu n) ih fu (v0) (v2) ((v3 / (2 : Int32))) (v4) (x2) ((0 : Int32)) _ h
set_option maxRecDepth 100000 in
set_option maxHeartbeats 4000000 in
theorem v_D_countNodes_38 (K : av_K p s m args meth c D cl8 ca A b_D_countNodes 7 R_D WS) (G : av_G NS tabON A s s.heap) (hr : meth.sig.returnType = some .int) (fu : Nat) {r : Int32 × List va_E} (k12 : Nat → Nat → Int32 → Int32 → Int32 → List va_E → Option (Int32 × List va_E)) (hk12 : ∀ (v0 : Nat) (v1 : Nat) (v2 : Int32) (v3 : Int32) (v4 : Int32) (w : List va_E), k12 v0 v1 v2 v3 v4 w = some r → av_VI p l e rm_D_countNodes s m args below meth c D cl8 A ad ca 7 r 12 [some (.ref v0), some (.ref v1), some (.int v2), some (.int v3), some (.int v4), none, none] [] w) (v0 : Nat) (v1 : Nat) (v2 : Int32) (v3 : Int32) (v4 : Int32) (s0 : Nat) (s1 : Int32) (s2 : Int32) (w : List va_E) (h : f_D_countNodes_38 fu k12 v0 v1 v2 v3 v4 s0 s1 s2 w = some r) : av_VI p l e rm_D_countNodes s m args below meth c D cl8 A ad ca 7 r 38 [some (.ref v0), some (.ref v1), some (.int v2), some (.int v3), some (.int v4), none, none] [.int s2, .int s1, .ref s0] w := by
  unfold f_D_countNodes_38 at h
  obtain ⟨w1, ew1, h⟩ := hp_bd h
  refine hv_wi K d_D_countNodes_38 ew1 ?_
  refine av_iinc (v := (v4 + (1 : Int32))) (L' := [some (.ref v0), some (.ref v1), some (.int v2), some (.int v3), some (.int (v4 + (1 : Int32))), none, none]) K d_D_countNodes_39 rfl (congrArg (fun z => v4 + z) (show Int32.ofInt 1 = (1 : Int32) by decide)) (Nat.le_of_ble_eq_true rfl) rfl ?_
  refine av_goto (tgt := 12) K d_D_countNodes_42 rfl ?_
  exact hk12 (v0) (v1) (v2) (v3) ((v4 + (1 : Int32))) _ h
set_option maxRecDepth 100000 in
set_option maxHeartbeats 4000000 in
theorem v_D_countNodes_12 (K : av_K p s m args meth c D cl8 ca A b_D_countNodes 7 R_D WS) (G : av_G NS tabON A s s.heap) (hr : meth.sig.returnType = some .int) (fu : Nat) {r : Int32 × List va_E} : ∀ (n : Nat) (v0 : Nat) (v1 : Nat) (v2 : Int32) (v3 : Int32) (v4 : Int32) (w : List va_E), f_D_countNodes_12 fu n v0 v1 v2 v3 v4 w = some r → av_VI p l e rm_D_countNodes s m args below meth c D cl8 A ad ca 7 r 12 [some (.ref v0), some (.ref v1), some (.int v2), some (.int v3), some (.int v4), none, none] [] w := by
  intro n
  induction n with
  | zero => intro _ _ _ _ _ _ h; cases h
  | succ n ih =>
    intro v0 v1 v2 v3 v4 w h
    unfold f_D_countNodes_12 at h
    refine av_iload K d_D_countNodes_12 rfl ?_
    refine av_iload_n K d_D_countNodes_14 rfl rfl ?_
    refine av_icmp_ge (tgt := 45) K d_D_countNodes_15 rfl (fun hc => ?_) (fun hc => ?_)
    · rw [if_pos hc] at h
      refine av_iconst (v := (0 : Int32)) K d_D_countNodes_45 (by decide) ?_
      refine av_istore (L' := [some (.ref v0), some (.ref v1), some (.int v2), some (.int v3), some (.int (0 : Int32)), none, none]) K d_D_countNodes_46 (Nat.le_of_ble_eq_true rfl) rfl ?_
      refine hv_fg (L' := [some (.ref v0), none, some (.int v2), some (.int v3), some (.int (0 : Int32)), none, none]) [1] rfl ?_
      exact v_D_countNodes_48 K G hr fu fu (v0) (v2) (v3) ((0 : Int32)) _ h
    · rw [if_neg hc] at h
      refine av_aload_n K d_D_countNodes_18 rfl rfl ?_
      obtain ⟨q1, eq1, h⟩ := hp_bd h
      refine hv_gr K fl_D_9 d_D_countNodes_19 eq1 ?_
      refine av_iload K d_D_countNodes_22 rfl ?_
      refine av_aload_n K d_D_countNodes_24 rfl rfl ?_
      refine av_iload K d_D_countNodes_25 rfl ?_
      obtain ⟨_, eo27, h⟩ := hp_bd h
      obtain ⟨r2, er2, h⟩ := hp_bd h
      obtain ⟨fs27, ho27⟩ := hp_is_of eo27
      refine av_cVi K G (c_T_isTrue (tab := tabON) er2) (cwV 1 K.2.2.2.2.1 (gV ml_D_22 im_T_isTrue se_T_isTrue in_T co_T_isTrue) rfl rfl rfl cd_T_isTrue ⟨Nat.le_of_ble_eq_true rfl, Nat.le_of_ble_eq_true rfl⟩) rfl ho27 rfl rfl (Nat.le_of_ble_eq_true rfl) d_D_countNodes_27 ⟨Nat.zero_le _, Nat.zero_le _⟩ (fun a9 u9 h9 => ?_)
      obtain ⟨rfl, rfl⟩ : a9 = r2.1 ∧ u9 = r2.2 := ⟨congrArg Prod.fst h9, congrArg Prod.snd h9⟩
      refine av_if_eq (tgt := 37) K d_D_countNodes_30 rfl (fun hc => ?_) (fun hc => ?_)
      · rw [if_pos hc] at h
        refine av_iconst (v := (0 : Int32)) K d_D_countNodes_37 (by decide) ?_
        exact v_D_countNodes_38 K G hr fu (f_D_countNodes_12 fu n) ih (v0) (v1) (v2) (v3) (v4) (q1) (v4) ((0 : Int32)) _ h
      · rw [if_neg hc] at h
        refine av_iconst (v := (1 : Int32)) K d_D_countNodes_33 (by decide) ?_
        refine av_goto (tgt := 38) K d_D_countNodes_34 rfl ?_
        exact v_D_countNodes_38 K G hr fu (f_D_countNodes_12 fu n) ih (v0) (v1) (v2) (v3) (v4) (q1) (v4) ((1 : Int32)) _ h
set_option maxRecDepth 100000 in
set_option maxHeartbeats 4000000 in
theorem v_D_countNodes (K : av_K p s m args meth c D cl8 ca A b_D_countNodes 7 R_D WS) (G : av_G NS tabON A s s.heap) (hr : meth.sig.returnType = some .int) (fu : Nat) {r : Int32 × List va_E} (v0 : Nat) (v1 : Nat) (v2 : Int32) (w : List va_E) (h : f_D_countNodes fu v0 v1 v2 w = some r) : av_VI p l e rm_D_countNodes s m args below meth c D cl8 A ad ca 7 r 0 [some (.ref v0), some (.ref v1), some (.int v2), none, none, none, none] [] w := by
  unfold f_D_countNodes at h
  refine av_iconst (v := (1 : Int32)) K d_D_countNodes_0 (by decide) ?_
  refine av_iload_n K d_D_countNodes_1 rfl rfl ?_
  refine av_ishl K d_D_countNodes_2 ?_
  refine av_istore_n (L' := [some (.ref v0), some (.ref v1), some (.int v2), some (.int ((1 : Int32) <<< (v2 &&& 31))), none, none, none]) K d_D_countNodes_3 rfl (Nat.le_of_ble_eq_true rfl) rfl ?_
  refine av_aload_n K d_D_countNodes_4 rfl rfl ?_
  refine av_iconst (v := (0 : Int32)) K d_D_countNodes_5 (by decide) ?_
  obtain ⟨w1, ew1, h⟩ := hp_bd h
  refine hv_pi K fp_D_18 d_D_countNodes_6 ew1 ?_
  refine av_iconst (v := (0 : Int32)) K d_D_countNodes_9 (by decide) ?_
  refine av_istore (L' := [some (.ref v0), some (.ref v1), some (.int v2), some (.int ((1 : Int32) <<< (v2 &&& 31))), some (.int (0 : Int32)), none, none]) K d_D_countNodes_10 (Nat.le_of_ble_eq_true rfl) rfl ?_
  exact v_D_countNodes_12 K G hr fu fu (v0) (v1) (v2) (((1 : Int32) <<< (v2 &&& 31))) ((0 : Int32)) _ h
end
set_option maxRecDepth 100000 in
theorem c_D_countNodes {l : Launch} {D : va_G} {ca : Nat → Nat} {tab : Nat → Int64} {fu : Nat} {v0 : Nat} {v1 : Nat} {v2 : Int32} {w : List va_E} {r : Int32 × List va_E} (h : f_D_countNodes fu v0 v1 v2 w = some r) : av_Ci l D cl8 ca NS tabON y_D_countNodes w_D_countNodes rm_D_countNodes [.ref v0, .ref v1, .int v2] w (fun v u => (v, u) = r) :=
  av_inI (cc := b_D_countNodes) (nL := 7) (by decide +kernel) rfl (Nat.le_of_ble_eq_true rfl) (fun p e s m args below meth c A ad K G hr => v_D_countNodes K G hr fu v0 v1 v2 w h)
