-- FaultTreeDesk$Odds.total(LFaultTreeDesk$Truth;LFaultTreeDesk$Events;I)J
theorem d_O_total_0 : decode b_O_total 0 = .ok (.iconst 1, 1) := by decide +kernel
theorem d_O_total_1 : decode b_O_total 1 = .ok (.aload_n 2, 1) := by decide +kernel
theorem d_O_total_2 : decode b_O_total 2 = .ok (.getfield 15, 3) := by decide +kernel
theorem d_O_total_5 : decode b_O_total 5 = .ok (.ishl, 1) := by decide +kernel
theorem d_O_total_6 : decode b_O_total 6 = .ok (.istore 4, 2) := by decide +kernel
theorem d_O_total_8 : decode b_O_total 8 = .ok (.iconst 0, 1) := by decide +kernel
theorem d_O_total_9 : decode b_O_total 9 = .ok (.istore 5, 2) := by decide +kernel
theorem d_O_total_11 : decode b_O_total 11 = .ok (.iload 5, 2) := by decide +kernel
theorem d_O_total_13 : decode b_O_total 13 = .ok (.iload 4, 2) := by decide +kernel
theorem d_O_total_15 : decode b_O_total 15 = .ok (.if_icmp .ge 30, 3) := by decide +kernel
theorem d_O_total_18 : decode b_O_total 18 = .ok (.aload_n 0, 1) := by decide +kernel
theorem d_O_total_19 : decode b_O_total 19 = .ok (.getfield 9, 3) := by decide +kernel
theorem d_O_total_22 : decode b_O_total 22 = .ok (.iload 5, 2) := by decide +kernel
theorem d_O_total_24 : decode b_O_total 24 = .ok (.aload_n 1, 1) := by decide +kernel
theorem d_O_total_25 : decode b_O_total 25 = .ok (.iload 5, 2) := by decide +kernel
theorem d_O_total_27 : decode b_O_total 27 = .ok (.invokevirtual 21, 3) := by decide +kernel
theorem d_O_total_30 : decode b_O_total 30 = .ok (.ifCond .eq 7, 3) := by decide +kernel
theorem d_O_total_33 : decode b_O_total 33 = .ok (.lconst 1, 1) := by decide +kernel
theorem d_O_total_34 : decode b_O_total 34 = .ok (.goto 4, 3) := by decide +kernel
theorem d_O_total_37 : decode b_O_total 37 = .ok (.lconst 0, 1) := by decide +kernel
theorem d_O_total_38 : decode b_O_total 38 = .ok (.lastore, 1) := by decide +kernel
theorem d_O_total_39 : decode b_O_total 39 = .ok (.iinc 5 1, 3) := by decide +kernel
theorem d_O_total_42 : decode b_O_total 42 = .ok (.goto (-31), 3) := by decide +kernel
theorem d_O_total_45 : decode b_O_total 45 = .ok (.iconst 0, 1) := by decide +kernel
theorem d_O_total_46 : decode b_O_total 46 = .ok (.istore 5, 2) := by decide +kernel
theorem d_O_total_48 : decode b_O_total 48 = .ok (.iload 5, 2) := by decide +kernel
theorem d_O_total_50 : decode b_O_total 50 = .ok (.aload_n 2, 1) := by decide +kernel
theorem d_O_total_51 : decode b_O_total 51 = .ok (.getfield 15, 3) := by decide +kernel
theorem d_O_total_54 : decode b_O_total 54 = .ok (.if_icmp .ge 105, 3) := by decide +kernel
theorem d_O_total_57 : decode b_O_total 57 = .ok (.iload 5, 2) := by decide +kernel
theorem d_O_total_59 : decode b_O_total 59 = .ok (.iload_n 3, 1) := by decide +kernel
theorem d_O_total_60 : decode b_O_total 60 = .ok (.if_icmp .ne 8, 3) := by decide +kernel
theorem d_O_total_63 : decode b_O_total 63 = .ok (.bipush 16, 2) := by decide +kernel
theorem d_O_total_65 : decode b_O_total 65 = .ok (.goto 10, 3) := by decide +kernel
theorem d_O_total_68 : decode b_O_total 68 = .ok (.aload_n 2, 1) := by decide +kernel
theorem d_O_total_69 : decode b_O_total 69 = .ok (.getfield 27, 3) := by decide +kernel
theorem d_O_total_72 : decode b_O_total 72 = .ok (.iload 5, 2) := by decide +kernel
theorem d_O_total_74 : decode b_O_total 74 = .ok (.iaload, 1) := by decide +kernel
theorem d_O_total_75 : decode b_O_total 75 = .ok (.istore 6, 2) := by decide +kernel
theorem d_O_total_77 : decode b_O_total 77 = .ok (.iload 5, 2) := by decide +kernel
theorem d_O_total_79 : decode b_O_total 79 = .ok (.iload_n 3, 1) := by decide +kernel
theorem d_O_total_80 : decode b_O_total 80 = .ok (.if_icmp .ne 8, 3) := by decide +kernel
theorem d_O_total_83 : decode b_O_total 83 = .ok (.bipush (-16), 2) := by decide +kernel
theorem d_O_total_85 : decode b_O_total 85 = .ok (.goto 8, 3) := by decide +kernel
theorem d_O_total_88 : decode b_O_total 88 = .ok (.bipush 16, 2) := by decide +kernel
theorem d_O_total_90 : decode b_O_total 90 = .ok (.iload 6, 2) := by decide +kernel
theorem d_O_total_92 : decode b_O_total 92 = .ok (.isub, 1) := by decide +kernel
theorem d_O_total_93 : decode b_O_total 93 = .ok (.istore 7, 2) := by decide +kernel
theorem d_O_total_95 : decode b_O_total 95 = .ok (.iload 4, 2) := by decide +kernel
theorem d_O_total_97 : decode b_O_total 97 = .ok (.iconst 2, 1) := by decide +kernel
theorem d_O_total_98 : decode b_O_total 98 = .ok (.idiv, 1) := by decide +kernel
theorem d_O_total_99 : decode b_O_total 99 = .ok (.istore 4, 2) := by decide +kernel
theorem d_O_total_101 : decode b_O_total 101 = .ok (.iconst 0, 1) := by decide +kernel
theorem d_O_total_102 : decode b_O_total 102 = .ok (.istore 8, 2) := by decide +kernel
theorem d_O_total_104 : decode b_O_total 104 = .ok (.iload 8, 2) := by decide +kernel
theorem d_O_total_106 : decode b_O_total 106 = .ok (.iload 4, 2) := by decide +kernel
theorem d_O_total_108 : decode b_O_total 108 = .ok (.if_icmp .ge 45, 3) := by decide +kernel
theorem d_O_total_111 : decode b_O_total 111 = .ok (.aload_n 0, 1) := by decide +kernel
theorem d_O_total_112 : decode b_O_total 112 = .ok (.getfield 9, 3) := by decide +kernel
theorem d_O_total_115 : decode b_O_total 115 = .ok (.iload 8, 2) := by decide +kernel
theorem d_O_total_117 : decode b_O_total 117 = .ok (.iload 7, 2) := by decide +kernel
theorem d_O_total_119 : decode b_O_total 119 = .ok (.i2l, 1) := by decide +kernel
theorem d_O_total_120 : decode b_O_total 120 = .ok (.aload_n 0, 1) := by decide +kernel
theorem d_O_total_121 : decode b_O_total 121 = .ok (.getfield 9, 3) := by decide +kernel
theorem d_O_total_124 : decode b_O_total 124 = .ok (.iconst 2, 1) := by decide +kernel
theorem d_O_total_125 : decode b_O_total 125 = .ok (.iload 8, 2) := by decide +kernel
theorem d_O_total_127 : decode b_O_total 127 = .ok (.imul, 1) := by decide +kernel
theorem d_O_total_128 : decode b_O_total 128 = .ok (.laload, 1) := by decide +kernel
theorem d_O_total_129 : decode b_O_total 129 = .ok (.lmul, 1) := by decide +kernel
theorem d_O_total_130 : decode b_O_total 130 = .ok (.iload 6, 2) := by decide +kernel
theorem d_O_total_132 : decode b_O_total 132 = .ok (.i2l, 1) := by decide +kernel
theorem d_O_total_133 : decode b_O_total 133 = .ok (.aload_n 0, 1) := by decide +kernel
theorem d_O_total_134 : decode b_O_total 134 = .ok (.getfield 9, 3) := by decide +kernel
theorem d_O_total_137 : decode b_O_total 137 = .ok (.iconst 2, 1) := by decide +kernel
theorem d_O_total_138 : decode b_O_total 138 = .ok (.iload 8, 2) := by decide +kernel
theorem d_O_total_140 : decode b_O_total 140 = .ok (.imul, 1) := by decide +kernel
theorem d_O_total_141 : decode b_O_total 141 = .ok (.iconst 1, 1) := by decide +kernel
theorem d_O_total_142 : decode b_O_total 142 = .ok (.iadd, 1) := by decide +kernel
theorem d_O_total_143 : decode b_O_total 143 = .ok (.laload, 1) := by decide +kernel
theorem d_O_total_144 : decode b_O_total 144 = .ok (.lmul, 1) := by decide +kernel
theorem d_O_total_145 : decode b_O_total 145 = .ok (.ladd, 1) := by decide +kernel
theorem d_O_total_146 : decode b_O_total 146 = .ok (.lastore, 1) := by decide +kernel
theorem d_O_total_147 : decode b_O_total 147 = .ok (.iinc 8 1, 3) := by decide +kernel
theorem d_O_total_150 : decode b_O_total 150 = .ok (.goto (-46), 3) := by decide +kernel
theorem d_O_total_153 : decode b_O_total 153 = .ok (.iinc 5 1, 3) := by decide +kernel
theorem d_O_total_156 : decode b_O_total 156 = .ok (.goto (-108), 3) := by decide +kernel
theorem d_O_total_159 : decode b_O_total 159 = .ok (.aload_n 0, 1) := by decide +kernel
theorem d_O_total_160 : decode b_O_total 160 = .ok (.getfield 9, 3) := by decide +kernel
theorem d_O_total_163 : decode b_O_total 163 = .ok (.iconst 0, 1) := by decide +kernel
theorem d_O_total_164 : decode b_O_total 164 = .ok (.laload, 1) := by decide +kernel
theorem d_O_total_165 : decode b_O_total 165 = .ok (.lreturn, 1) := by decide +kernel
def rm_O_total : Room := { frames := 1, cells := 0, slots := 0, locals := 22 }
def f_O_total_104 (fu : Nat) (k48 : Nat → Nat → Int32 → Int32 → Int32 → List va_E → Option (Int64 × List va_E)) : Nat → Nat → Nat → Int32 → Int32 → Int32 → Int32 → Int32 → Int32 → List va_E → Option (Int64 × List va_E)
  | 0, _, _, _, _, _, _, _, _, _ => none
  | n + 1, v0, v2, v3, v4, v5, v6, v7, v8, w => (if v4 ≤ v8 then (k48 (v0) (v2) (v3) (v4) ((v5 + (1 : Int32))) w) else ((hp_gr w v0 3 0).bind fun q1 => ((hp_gr w v0 3 0).bind fun q2 => ((hp_rl w q2 ((2 : Int32) * v8)).bind fun y3 => ((hp_gr w v0 3 0).bind fun q4 => ((hp_rl w q4 (((2 : Int32) * v8) + (1 : Int32))).bind fun y5 => ((hp_wl w q1 v8 (((v7).toInt64 * y3) + ((v6).toInt64 * y5))).bind fun w6 => (f_O_total_104 fu k48 n (v0) (v2) (v3) (v4) (v5) (v6) (v7) ((v8 + (1 : Int32))) w6))))))))
def f_O_total_93 (fu : Nat) (k48 : Nat → Nat → Int32 → Int32 → Int32 → List va_E → Option (Int64 × List va_E)) (v0 : Nat) (v2 : Nat) (v3 : Int32) (v4 : Int32) (v5 : Int32) (v6 : Int32) (s0 : Int32) (w : List va_E) : Option (Int64 × List va_E) := (f_O_total_104 fu k48 fu (v0) (v2) (v3) ((v4 / (2 : Int32))) (v5) (v6) (s0) ((0 : Int32)) w)
def f_O_total_75 (fu : Nat) (k48 : Nat → Nat → Int32 → Int32 → Int32 → List va_E → Option (Int64 × List va_E)) (v0 : Nat) (v2 : Nat) (v3 : Int32) (v4 : Int32) (v5 : Int32) (s0 : Int32) (w : List va_E) : Option (Int64 × List va_E) := (if v5 = v3 then (f_O_total_93 fu k48 (v0) (v2) (v3) (v4) (v5) (s0) ((-16 : Int32)) w) else (f_O_total_93 fu k48 (v0) (v2) (v3) (v4) (v5) (s0) (((16 : Int32) - s0)) w))
def f_O_total_48 (fu : Nat) : Nat → Nat → Nat → Int32 → Int32 → Int32 → List va_E → Option (Int64 × List va_E)
  | 0, _, _, _, _, _, _ => none
  | n + 1, v0, v2, v3, v4, v5, w => ((hp_gi w v2 1 2).bind fun x1 => (if x1 ≤ v5 then ((hp_gr w v0 3 0).bind fun q2 => ((hp_rl w q2 (0 : Int32)).bind fun y3 => (some (y3, w)))) else (if v5 = v3 then (f_O_total_75 fu (f_O_total_48 fu n) (v0) (v2) (v3) (v4) (v5) ((16 : Int32)) w) else ((hp_gr w v2 1 0).bind fun q4 => ((hp_ri w q4 v5).bind fun x5 => (f_O_total_75 fu (f_O_total_48 fu n) (v0) (v2) (v3) (v4) (v5) (x5) w))))))
def f_O_total_38 (fu : Nat) (k11 : Nat → Nat → Nat → Int32 → Int32 → Int32 → List va_E → Option (Int64 × List va_E)) (v0 : Nat) (v1 : Nat) (v2 : Nat) (v3 : Int32) (v4 : Int32) (v5 : Int32) (s0 : Nat) (s1 : Int32) (s2 : Int64) (w : List va_E) : Option (Int64 × List va_E) := ((hp_wl w s0 s1 s2).bind fun w1 => (k11 (v0) (v1) (v2) (v3) (v4) ((v5 + (1 : Int32))) w1))
def f_O_total_11 (fu : Nat) : Nat → Nat → Nat → Nat → Int32 → Int32 → Int32 → List va_E → Option (Int64 × List va_E)
  | 0, _, _, _, _, _, _, _ => none
  | n + 1, v0, v1, v2, v3, v4, v5, w => (if v4 ≤ v5 then (f_O_total_48 fu fu (v0) (v2) (v3) (v4) ((0 : Int32)) w) else ((hp_gr w v0 3 0).bind fun q1 => ((hp_is w v1 5).bind fun _ => ((f_T_isTrue fu v1 v5 w).bind fun r2 => (if r2.1 = 0 then (f_O_total_38 fu (f_O_total_11 fu n) (v0) (v1) (v2) (v3) (v4) (v5) (q1) (v5) ((0 : Int64)) r2.2) else (f_O_total_38 fu (f_O_total_11 fu n) (v0) (v1) (v2) (v3) (v4) (v5) (q1) (v5) ((1 : Int64)) r2.2))))))
def f_O_total (fu : Nat) (v0 : Nat) (v1 : Nat) (v2 : Nat) (v3 : Int32) (w : List va_E) : Option (Int64 × List va_E) := ((hp_gi w v2 1 2).bind fun x1 => (f_O_total_11 fu fu (v0) (v1) (v2) (v3) (((1 : Int32) <<< (x1 &&& 31))) ((0 : Int32)) w))
section
variable {p : Program} {l : Launch} {e : Env} {s : State} {m : MethodId} {args : Array Value} {below : List Frame} {meth : Method} {c : Code} {D : va_G} {ca : Nat → Nat} {A : Nat → Prop} {ad : Nat → Nat}
set_option maxRecDepth 100000 in
set_option maxHeartbeats 4000000 in
theorem v_O_total_104 (K : av_K p s m args meth c D cl8 ca A b_O_total 9 R_O WS) (G : av_G NS tabON A s s.heap) (hr : meth.sig.returnType = some .long) (fu : Nat) {r : Int64 × List va_E} (k48 : Nat → Nat → Int32 → Int32 → Int32 → List va_E → Option (Int64 × List va_E)) (hk48 : ∀ (v0 : Nat) (v2 : Nat) (v3 : Int32) (v4 : Int32) (v5 : Int32) (w : List va_E), k48 v0 v2 v3 v4 v5 w = some r → av_VL p l e rm_O_total s m args below meth c D cl8 A ad ca 9 r 48 [some (.ref v0), none, some (.ref v2), some (.int v3), some (.int v4), some (.int v5), none, none, none] [] w) : ∀ (n : Nat) (v0 : Nat) (v2 : Nat) (v3 : Int32) (v4 : Int32) (v5 : Int32) (v6 : Int32) (v7 : Int32) (v8 : Int32) (w : List va_E), f_O_total_104 fu k48 n v0 v2 v3 v4 v5 v6 v7 v8 w = some r → av_VL p l e rm_O_total s m args below meth c D cl8 A ad ca 9 r 104 [some (.ref v0), none, some (.ref v2), some (.int v3), some (.int v4), some (.int v5), some (.int v6), some (.int v7), some (.int v8)] [] w := by
  intro n
  induction n with
  | zero => intro _ _ _ _ _ _ _ _ _ h; cases h
  | succ n ih =>
    intro v0 v2 v3 v4 v5 v6 v7 v8 w h
    unfold f_O_total_104 at h
    refine av_iload K d_O_total_104 rfl ?_
    refine av_iload K d_O_total_106 rfl ?_
    refine av_icmp_ge (tgt := 153) K d_O_total_108 rfl (fun hc => ?_) (fun hc => ?_)
    · rw [if_pos hc] at h
      refine av_iinc (v := (v5 + (1 : Int32))) (L' := [some (.ref v0), none, some (.ref v2), some (.int v3), some (.int v4), some (.int (v5 + (1 : Int32))), some (.int v6), some (.int v7), some (.int v8)]) K d_O_total_153 rfl (congrArg (fun z => v5 + z) (show Int32.ofInt 1 = (1 : Int32) by decide)) (Nat.le_of_ble_eq_true rfl) rfl ?_
      refine av_goto (tgt := 48) K d_O_total_156 rfl ?_
      refine hv_fg (L' := [some (.ref v0), none, some (.ref v2), some (.int v3), some (.int v4), some (.int (v5 + (1 : Int32))), none, none, none]) [6, 7, 8] rfl ?_
      exact hk48 (v0) (v2) (v3) (v4) ((v5 + (1 : Int32))) _ h
    · rw [if_neg hc] at h
      refine av_aload_n K d_O_total_111 rfl rfl ?_
      obtain ⟨q1, eq1, h⟩ := hp_bd h
      refine hv_gr K fl_O_9 d_O_total_112 eq1 ?_
      refine av_iload K d_O_total_115 rfl ?_
      refine av_iload K d_O_total_117 rfl ?_
      refine av_i2l K d_O_total_119 ?_
      refine av_aload_n K d_O_total_120 rfl rfl ?_
      obtain ⟨q2, eq2, h⟩ := hp_bd h
      refine hv_gr K fl_O_9 d_O_total_121 eq2 ?_
      refine av_iconst (v := (2 : Int32)) K d_O_total_124 (by decide) ?_
      refine av_iload K d_O_total_125 rfl ?_
      refine av_imul K d_O_total_127 ?_
      obtain ⟨y3, ey3, h⟩ := hp_bd h
      refine hv_rl K d_O_total_128 ey3 ?_
      refine av_lmul K d_O_total_129 ?_
      refine av_iload K d_O_total_130 rfl ?_
      refine av_i2l K d_O_total_132 ?_
      refine av_aload_n K d_O_total_133 rfl rfl ?_
      obtain ⟨q4, eq4, h⟩ := hp_bd h
      refine hv_gr K fl_O_9 d_O_total_134 eq4 ?_
      refine av_iconst (v := (2 : Int32)) K d_O_total_137 (by decide) ?_
      refine av_iload K d_O_total_138 rfl ?_
      refine av_imul K d_O_total_140 ?_
      refine av_iconst (v := (1 : Int32)) K d_O_total_141 (by decide) ?_
      refine av_iadd K d_O_total_142 ?_
      obtain ⟨y5, ey5, h⟩ := hp_bd h
      refine hv_rl K d_O_total_143 ey5 ?_
      refine av_lmul K d_O_total_144 ?_
      refine av_ladd K d_O_total_145 ?_
      obtain ⟨w6, ew6, h⟩ := hp_bd h
      refine hv_wl K d_O_total_146 ew6 ?_
      refine av_iinc (v := (v8 + (1 : Int32))) (L' := [some (.ref v0), none, some (.ref v2), some (.int v3), some (.int v4), some (.int v5), some (.int v6), some (.int v7), some (.int (v8 + (1 : Int32)))]) K d_O_total_147 rfl (congrArg (fun z => v8 + z) (show Int32.ofInt 1 = (1 : Int32) by decide)) (Nat.le_of_ble_eq_true rfl) rfl ?_
      refine av_goto (tgt := 104) K d_O_total_150 rfl ?_
      exact ih (v0) (v2) (v3) (v4) (v5) (v6) (v7) ((v8 + (1 : Int32))) _ h
set_option maxRecDepth 100000 in
set_option maxHeartbeats 4000000 in
theorem v_O_total_93 (K : av_K p s m args meth c D cl8 ca A b_O_total 9 R_O WS) (G : av_G NS tabON A s s.heap) (hr : meth.sig.returnType = some .long) (fu : Nat) {r : Int64 × List va_E} (k48 : Nat → Nat → Int32 → Int32 → Int32 → List va_E → Option (Int64 × List va_E)) (hk48 : ∀ (v0 : Nat) (v2 : Nat) (v3 : Int32) (v4 : Int32) (v5 : Int32) (w : List va_E), k48 v0 v2 v3 v4 v5 w = some r → av_VL p l e rm_O_total s m args below meth c D cl8 A ad ca 9 r 48 [some (.ref v0), none, some (.ref v2), some (.int v3), some (.int v4), some (.int v5), none, none, none] [] w) (v0 : Nat) (v2 : Nat) (v3 : Int32) (v4 : Int32) (v5 : Int32) (v6 : Int32) (s0 : Int32) (w : List va_E) (h : f_O_total_93 fu k48 v0 v2 v3 v4 v5 v6 s0 w = some r) : av_VL p l e rm_O_total s m args below meth c D cl8 A ad ca 9 r 93 [some (.ref v0), none, some (.ref v2), some (.int v3), some (.int v4), some (.int v5), some (.int v6), none, none] [.int s0] w := by
  unfold f_O_total_93 at h
  refine av_istore (L' := [some (.ref v0), none, some (.ref v2), some (.int v3), some (.int v4), some (.int v5), some (.int v6), some (.int s0), none]) K d_O_total_93 (Nat.le_of_ble_eq_true rfl) rfl ?_
  refine av_iload K d_O_total_95 rfl ?_
  refine av_iconst (v := (2 : Int32)) K d_O_total_97 (by decide) ?_
  refine av_idiv K d_O_total_98 (by decide) ?_
  refine av_istore (L' := [some (.ref v0), none, some (.ref v2), some (.int v3), some (.int (v4 / (2 : Int32))), some (.int v5), some (.int v6), some (.int s0), none]) K d_O_total_99 (Nat.le_of_ble_eq_true rfl) rfl ?_
  refine av_iconst (v := (0 : Int32)) K d_O_total_101 (by decide) ?_
  refine av_istore (L' := [some (.ref v0), none, some (.ref v2), some (.int v3), some (.int (v4 / (2 : Int32))), some (.int v5), some (.int v6), some (.int s0), some (.int (0 : Int32))]) K d_O_total_102 (Nat.le_of_ble_eq_true rfl) rfl ?_
  exact v_O_total_104 K G hr fu k48 hk48 fu (v0) (v2) (v3) ((v4 / (2 : Int32))) (v5) (v6) (s0) ((0 : Int32)) _ h
set_option maxRecDepth 100000 in
set_option maxHeartbeats 4000000 in
theorem v_O_total_75 (K : av_K p s m args meth c D cl8 ca A b_O_total 9 R_O WS) (G : av_G NS tabON A s s.heap) (hr : meth.sig.returnType = some .long) (fu : Nat) {r : Int64 × List va_E} (k48 : Nat → Nat → Int32 → Int32 → Int32 → List va_E → Option (Int64 × List va_E)) (hk48 : ∀ (v0 : Nat) (v2 : Nat) (v3 : Int32) (v4 : Int32) (v5 : Int32) (w : List va_E), k48 v0 v2 v3 v4 v5 w = some r → av_VL p l e rm_O_total s m args below meth c D cl8 A ad ca 9 r 48 [some (.ref v0), none, some (.ref v2), some (.int v3), some (.int v4), some (.int v5), none, none, none] [] w) (v0 : Nat) (v2 : Nat) (v3 : Int32) (v4 : Int32) (v5 : Int32) (s0 : Int32) (w : List va_E) (h : f_O_total_75 fu k48 v0 v2 v3 v4 v5 s0 w = some r) : av_VL p l e rm_O_total s m args below meth c D cl8 A ad ca 9 r 75 [some (.ref v0), none, some (.ref v2), some (.int v3), some (.int v4), some (.int v5), none, none, none] [.int s0] w := by
  unfold f_O_total_75 at h
  refine av_istore (L' := [some (.ref v0), none, some (.ref v2), some (.int v3), some (.int v4), some (.int v5), some (.int s0), none, none]) K d_O_total_75 (Nat.le_of_ble_eq_true rfl) rfl ?_
  refine av_iload K d_O_total_77 rfl ?_
  refine av_iload_n K d_O_total_79 rfl rfl ?_
  refine av_icmp_ne (tgt := 88) K d_O_total_80 rfl (fun hc => ?_) (fun hc => ?_)
  · rw [if_neg hc] at h
    refine av_bipush (v := (16 : Int32)) K d_O_total_88 (by decide) ?_
    refine av_iload K d_O_total_90 rfl ?_
    refine av_isub K d_O_total_92 ?_
    exact v_O_total_93 K G hr fu k48 hk48 (v0) (v2) (v3) (v4) (v5) (s0) (((16 : Int32) - s0)) _ h
  · rw [if_pos hc] at h
    refine av_bipush (v := (-16 : Int32)) K d_O_total_83 (by decide) ?_
    refine av_goto (tgt := 93) K d_O_total_85 rfl ?_
    exact v_O_total_93 K G hr fu k48 hk48 (v0) (v2) (v3) (v4) (v5) (s0) ((-16 : Int32)) _ h
set_option maxRecDepth 100000 in
set_option maxHeartbeats 4000000 in
theorem v_O_total_48 (K : av_K p s m args meth c D cl8 ca A b_O_total 9 R_O WS) (G : av_G NS tabON A s s.heap) (hr : meth.sig.returnType = some .long) (fu : Nat) {r : Int64 × List va_E} : ∀ (n : Nat) (v0 : Nat) (v2 : Nat) (v3 : Int32) (v4 : Int32) (v5 : Int32) (w : List va_E), f_O_total_48 fu n v0 v2 v3 v4 v5 w = some r → av_VL p l e rm_O_total s m args below meth c D cl8 A ad ca 9 r 48 [some (.ref v0), none, some (.ref v2), some (.int v3), some (.int v4), some (.int v5), none, none, none] [] w := by
  intro n
  induction n with
  | zero => intro _ _ _ _ _ _ h; cases h
  | succ n ih =>
    intro v0 v2 v3 v4 v5 w h
    unfold f_O_total_48 at h
    refine av_iload K d_O_total_48 rfl ?_
    refine av_aload_n K d_O_total_50 rfl rfl ?_
    obtain ⟨x1, ex1, h⟩ := hp_bd h
    refine hv_giN K G fl_O_15 d_O_total_51 ex1 ?_
    refine av_icmp_ge (tgt := 159) K d_O_total_54 rfl (fun hc => ?_) (fun hc => ?_)
    · rw [if_pos hc] at h
      refine av_aload_n K d_O_total_159 rfl rfl ?_
      obtain ⟨q2, eq2, h⟩ := hp_bd h
      refine hv_gr K fl_O_9 d_O_total_160 eq2 ?_
      refine av_iconst (v := (0 : Int32)) K d_O_total_163 (by decide) ?_
      obtain ⟨y3, ey3, h⟩ := hp_bd h
      refine hv_rl K d_O_total_164 ey3 ?_
      obtain rfl := Option.some.inj h
      exact av_lreturn K hr d_O_total_165 rfl
    · rw [if_neg hc] at h
      refine av_iload K d_O_total_57 rfl ?_
      refine av_iload_n K d_O_total_59 rfl rfl ?_
      refine av_icmp_ne (tgt := 68) K d_O_total_60 rfl (fun hc => ?_) (fun hc => ?_)
      · rw [if_neg hc] at h
        refine av_aload_n K d_O_total_68 rfl rfl ?_
        obtain ⟨q4, eq4, h⟩ := hp_bd h
        refine hv_grN K G fl_O_27 d_O_total_69 eq4 ?_
        refine av_iload K d_O_total_72 rfl ?_
        obtain ⟨x5, ex5, h⟩ := hp_bd h
        refine hv_ri K d_O_total_74 ex5 ?_
        exact v_O_total_75 K G hr fu (f_O_total_48 fu n) ih (v0) (v2) (v3) (v4) (v5) (x5) _ h
      · rw [if_pos hc] at h
        refine av_bipush (v := (16 : Int32)) K d_O_total_63 (by decide) ?_
        refine av_goto (tgt := 75) K d_O_total_65 rfl ?_
        exact v_O_total_75 K G hr fu (f_O_total_48 fu n) ih (v0) (v2) (v3) (v4) (v5) ((16 : Int32)) _ h
set_option maxRecDepth 100000 in
set_option maxHeartbeats 4000000 in
theorem v_O_total_38 (K : av_K p s m args meth c D cl8 ca A b_O_total 9 R_O WS) (G : av_G NS tabON A s s.heap) (hr : meth.sig.returnType = some .long) (fu : Nat) {r : Int64 × List va_E} (k11 : Nat → Nat → Nat → Int32 → Int32 → Int32 → List va_E → Option (Int64 × List va_E)) (hk11 : ∀ (v0 : Nat) (v1 : Nat) (v2 : Nat) (v3 : Int32) (v4 : Int32) (v5 : Int32) (w : List va_E), k11 v0 v1 v2 v3 v4 v5 w = some r → av_VL p l e rm_O_total s m args below meth c D cl8 A ad ca 9 r 11 [some (.ref v0), some (.ref v1), some (.ref v2), some (.int v3), some (.int v4), some (.int v5), none, none, none] [] w) (v0 : Nat) (v1 : Nat) (v2 : Nat) (v3 : Int32) (v4 : Int32) (v5 : Int32) (s0 : Nat) (s1 : Int32) (s2 : Int64) (w : List va_E) (h : f_O_total_38 fu k11 v0 v1 v2 v3 v4 v5 s0 s1 s2 w = some r) : av_VL p l e rm_O_total s m args below meth c D cl8 A ad ca 9 r 38 [some (.ref v0), some (.ref v1), some (.ref v2), some (.int v3), some (.int v4), some (.int v5), none, none, none] [.long s2, .int s1, .ref s0] w := by
  unfold f_O_total_38 at h
  obtain ⟨w1, ew1, h⟩ := hp_bd h
  refine hv_wl K d_O_total_38 ew1 ?_
  refine av_iinc (v := (v5 + (1 : Int32))) (L' := [some (.ref v0), some (.ref v1), some (.ref v2), some (.int v3), some (.int v4), some (.int (v5 + (1 : Int32))), none, none, none]) K d_O_total_39 rfl (congrArg (fun z => v5 + z) (show Int32.ofInt 1 = (1 : Int32) by decide)) (Nat.le_of_ble_eq_true rfl) rfl ?_
  refine av_goto (tgt := 11) K d_O_total_42 rfl ?_
  exact hk11 (v0) (v1) (v2) (v3) (v4) ((v5 + (1 : Int32))) _ h
set_option maxRecDepth 100000 in
set_option maxHeartbeats 4000000 in
theorem v_O_total_11 (K : av_K p s m args meth c D cl8 ca A b_O_total 9 R_O WS) (G : av_G NS tabON A s s.heap) (hr : meth.sig.returnType = some .long) (fu : Nat) {r : Int64 × List va_E} : ∀ (n : Nat) (v0 : Nat) (v1 : Nat) (v2 : Nat) (v3 : Int32) (v4 : Int32) (v5 : Int32) (w : List va_E), f_O_total_11 fu n v0 v1 v2 v3 v4 v5 w = some r → av_VL p l e rm_O_total s m args below meth c D cl8 A ad ca 9 r 11 [some (.ref v0), some (.ref v1), some (.ref v2), some (.int v3), some (.int v4), some (.int v5), none, none, none] [] w := by
  intro n
  induction n with
  | zero => intro _ _ _ _ _ _ _ h; cases h
  | succ n ih =>
    intro v0 v1 v2 v3 v4 v5 w h
    unfold f_O_total_11 at h
    refine av_iload K d_O_total_11 rfl ?_
    refine av_iload K d_O_total_13 rfl ?_
    refine av_icmp_ge (tgt := 45) K d_O_total_15 rfl (fun hc => ?_) (fun hc => ?_)
    · rw [if_pos hc] at h
      refine av_iconst (v := (0 : Int32)) K d_O_total_45 (by decide) ?_
      refine av_istore (L' := [some (.ref v0), some (.ref v1), some (.ref v2), some (.int v3), some (.int v4), some (.int (0 : Int32)), none, none, none]) K d_O_total_46 (Nat.le_of_ble_eq_true rfl) rfl ?_
      refine hv_fg (L' := [some (.ref v0), none, some (.ref v2), some (.int v3), some (.int v4), some (.int (0 : Int32)), none, none, none]) [1] rfl ?_
      exact v_O_total_48 K G hr fu fu (v0) (v2) (v3) (v4) ((0 : Int32)) _ h
    · rw [if_neg hc] at h
      refine av_aload_n K d_O_total_18 rfl rfl ?_
      obtain ⟨q1, eq1, h⟩ := hp_bd h
      refine hv_gr K fl_O_9 d_O_total_19 eq1 ?_
      refine av_iload K d_O_total_22 rfl ?_
      refine av_aload_n K d_O_total_24 rfl rfl ?_
      refine av_iload K d_O_total_25 rfl ?_
      obtain ⟨_, eo27, h⟩ := hp_bd h
      obtain ⟨r2, er2, h⟩ := hp_bd h
      obtain ⟨fs27, ho27⟩ := hp_is_of eo27
      refine av_cVi K G (c_T_isTrue (tab := tabON) er2) (cwV 1 K.2.2.2.2.1 (gV ml_O_21 im_T_isTrue se_T_isTrue in_T co_T_isTrue) rfl rfl rfl cd_T_isTrue ⟨Nat.le_of_ble_eq_true rfl, Nat.le_of_ble_eq_true rfl⟩) rfl ho27 rfl rfl (Nat.le_of_ble_eq_true rfl) d_O_total_27 ⟨Nat.zero_le _, Nat.zero_le _⟩ (fun a9 u9 h9 => ?_)
      obtain ⟨rfl, rfl⟩ : a9 = r2.1 ∧ u9 = r2.2 := ⟨congrArg Prod.fst h9, congrArg Prod.snd h9⟩
      refine av_if_eq (tgt := 37) K d_O_total_30 rfl (fun hc => ?_) (fun hc => ?_)
      · rw [if_pos hc] at h
        refine av_lconst (v := (0 : Int64)) K d_O_total_37 (by decide) ?_
        exact v_O_total_38 K G hr fu (f_O_total_11 fu n) ih (v0) (v1) (v2) (v3) (v4) (v5) (q1) (v5) ((0 : Int64)) _ h
      · rw [if_neg hc] at h
        refine av_lconst (v := (1 : Int64)) K d_O_total_33 (by decide) ?_
        refine av_goto (tgt := 38) K d_O_total_34 rfl ?_
        exact v_O_total_38 K G hr fu (f_O_total_11 fu n) ih (v0) (v1) (v2) (v3) (v4) (v5) (q1) (v5) ((1 : Int64)) _ h
set_option maxRecDepth 100000 in
set_option maxHeartbeats 4000000 in
theorem v_O_total (K : av_K p s m args meth c D cl8 ca A b_O_total 9 R_O WS) (G : av_G NS tabON A s s.heap) (hr : meth.sig.returnType = some .long) (fu : Nat) {r : Int64 × List va_E} (v0 : Nat) (v1 : Nat) (v2 : Nat) (v3 : Int32) (w : List va_E) (h : f_O_total fu v0 v1 v2 v3 w = some r) : av_VL p l e rm_O_total s m args below meth c D cl8 A ad ca 9 r 0 [some (.ref v0), some (.ref v1), some (.ref v2), some (.int v3), none, none, none, none, none] [] w := by
  unfold f_O_total at h
  refine av_iconst (v := (1 : Int32)) K d_O_total_0 (by decide) ?_
  refine av_aload_n K d_O_total_1 rfl rfl ?_
  obtain ⟨x1, ex1, h⟩ := hp_bd h
  refine hv_giN K G fl_O_15 d_O_total_2 ex1 ?_
  refine av_ishl K d_O_total_5 ?_
  refine av_istore (L' := [some (.ref v0), some (.ref v1), some (.ref v2), some (.int v3), some (.int ((1 : Int32) <<< (x1 &&& 31))), none, none, none, none]) K d_O_total_6 (Nat.le_of_ble_eq_true rfl) rfl ?_
  refine av_iconst (v := (0 : Int32)) K d_O_total_8 (by decide) ?_
  refine av_istore (L' := [some (.ref v0), some (.ref v1), some (.ref v2), some (.int v3), some (.int ((1 : Int32) <<< (x1 &&& 31))), some (.int (0 : Int32)), none, none, none]) K d_O_total_9 (Nat.le_of_ble_eq_true rfl) rfl ?_
  exact v_O_total_11 K G hr fu fu (v0) (v1) (v2) (v3) (((1 : Int32) <<< (x1 &&& 31))) ((0 : Int32)) _ h
end
set_option maxRecDepth 100000 in
theorem c_O_total {l : Launch} {D : va_G} {ca : Nat → Nat} {tab : Nat → Int64} {fu : Nat} {v0 : Nat} {v1 : Nat} {v2 : Nat} {v3 : Int32} {w : List va_E} {r : Int64 × List va_E} (h : f_O_total fu v0 v1 v2 v3 w = some r) : av_Cl l D cl8 ca NS tabON y_O_total w_O_total rm_O_total [.ref v0, .ref v1, .ref v2, .int v3] w (fun v u => (v, u) = r) :=
  av_inL (cc := b_O_total) (nL := 9) (by decide +kernel) rfl (Nat.le_of_ble_eq_true rfl) (fun p e s m args below meth c A ad K G hr => v_O_total K G hr fu v0 v1 v2 v3 w h)

-- FaultTreeDesk$Odds.decimal(JII)I
theorem d_O_decimal_0 : decode b_O_decimal 0 = .ok (.iconst 4, 1) := by decide +kernel
theorem d_O_decimal_1 : decode b_O_decimal 1 = .ok (.iload_n 3, 1) := by decide +kernel
theorem d_O_decimal_2 : decode b_O_decimal 2 = .ok (.imul, 1) := by decide +kernel
theorem d_O_decimal_3 : decode b_O_decimal 3 = .ok (.istore 5, 2) := by decide +kernel
theorem d_O_decimal_5 : decode b_O_decimal 5 = .ok (.lload_n 1, 1) := by decide +kernel
theorem d_O_decimal_6 : decode b_O_decimal 6 = .ok (.lstore 6, 2) := by decide +kernel
theorem d_O_decimal_8 : decode b_O_decimal 8 = .ok (.iconst 0, 1) := by decide +kernel
theorem d_O_decimal_9 : decode b_O_decimal 9 = .ok (.istore 8, 2) := by decide +kernel
theorem d_O_decimal_11 : decode b_O_decimal 11 = .ok (.iload 8, 2) := by decide +kernel
theorem d_O_decimal_13 : decode b_O_decimal 13 = .ok (.iload 4, 2) := by decide +kernel
theorem d_O_decimal_15 : decode b_O_decimal 15 = .ok (.if_icmp .ge 24, 3) := by decide +kernel
theorem d_O_decimal_18 : decode b_O_decimal 18 = .ok (.lload 6, 2) := by decide +kernel
theorem d_O_decimal_20 : decode b_O_decimal 20 = .ok (.lconst 1, 1) := by decide +kernel
theorem d_O_decimal_21 : decode b_O_decimal 21 = .ok (.iload 5, 2) := by decide +kernel
theorem d_O_decimal_23 : decode b_O_decimal 23 = .ok (.lshl, 1) := by decide +kernel
theorem d_O_decimal_24 : decode b_O_decimal 24 = .ok (.lconst 1, 1) := by decide +kernel
theorem d_O_decimal_25 : decode b_O_decimal 25 = .ok (.lsub, 1) := by decide +kernel
theorem d_O_decimal_26 : decode b_O_decimal 26 = .ok (.land, 1) := by decide +kernel
theorem d_O_decimal_27 : decode b_O_decimal 27 = .ok (.ldc2_w 31, 3) := by decide +kernel
theorem d_O_decimal_30 : decode b_O_decimal 30 = .ok (.lmul, 1) := by decide +kernel
theorem d_O_decimal_31 : decode b_O_decimal 31 = .ok (.lstore 6, 2) := by decide +kernel
theorem d_O_decimal_33 : decode b_O_decimal 33 = .ok (.iinc 8 1, 3) := by decide +kernel
theorem d_O_decimal_36 : decode b_O_decimal 36 = .ok (.goto (-25), 3) := by decide +kernel
theorem d_O_decimal_39 : decode b_O_decimal 39 = .ok (.lload 6, 2) := by decide +kernel
theorem d_O_decimal_41 : decode b_O_decimal 41 = .ok (.iload 5, 2) := by decide +kernel
theorem d_O_decimal_43 : decode b_O_decimal 43 = .ok (.lshr, 1) := by decide +kernel
theorem d_O_decimal_44 : decode b_O_decimal 44 = .ok (.l2i, 1) := by decide +kernel
theorem d_O_decimal_45 : decode b_O_decimal 45 = .ok (.ireturn, 1) := by decide +kernel
def rm_O_decimal : Room := { frames := 0, cells := 0, slots := 0, locals := 0 }
def f_O_decimal_11 (fu : Nat) : Nat → Int32 → Int32 → Int64 → Int32 → List va_E → Option (Int32 × List va_E)
  | 0, _, _, _, _, _ => none
  | n + 1, v4, v5, v6, v8, w => (if v4 ≤ v8 then (some (((v6 >>> ((v5).toInt64 &&& 63))).toInt32, w)) else (f_O_decimal_11 fu n (v4) (v5) (((v6 &&& (((1 : Int64) <<< ((v5).toInt64 &&& 63)) - (1 : Int64))) * (10 : Int64))) ((v8 + (1 : Int32))) w))
def f_O_decimal (fu : Nat) (v0 : Nat) (v1 : Int64) (v3 : Int32) (v4 : Int32) (w : List va_E) : Option (Int32 × List va_E) := (f_O_decimal_11 fu fu (v4) (((4 : Int32) * v3)) (v1) ((0 : Int32)) w)
section
variable {p : Program} {l : Launch} {e : Env} {s : State} {m : MethodId} {args : Array Value} {below : List Frame} {meth : Method} {c : Code} {D : va_G} {ca : Nat → Nat} {A : Nat → Prop} {ad : Nat → Nat}
set_option maxRecDepth 100000 in
set_option maxHeartbeats 4000000 in
theorem v_O_decimal_11 (K : av_K p s m args meth c D cl8 ca A b_O_decimal 9 R_O WS) (G : av_G NS tabON A s s.heap) (hr : meth.sig.returnType = some .int) (fu : Nat) {r : Int32 × List va_E} : ∀ (n : Nat) (v4 : Int32) (v5 : Int32) (v6 : Int64) (v8 : Int32) (w : List va_E), f_O_decimal_11 fu n v4 v5 v6 v8 w = some r → av_VI p l e rm_O_decimal s m args below meth c D cl8 A ad ca 9 r 11 [none, none, none, none, some (.int v4), some (.int v5), some (.long v6), none, some (.int v8)] [] w := by
  intro n
  induction n with
  | zero => intro _ _ _ _ _ h; cases h
  | succ n ih =>
    intro v4 v5 v6 v8 w h
    unfold f_O_decimal_11 at h
    refine av_iload K d_O_decimal_11 rfl ?_
    refine av_iload K d_O_decimal_13 rfl ?_
    refine av_icmp_ge (tgt := 39) K d_O_decimal_15 rfl (fun hc => ?_) (fun hc => ?_)
    · rw [if_pos hc] at h
      refine av_lload K d_O_decimal_39 rfl ?_
      refine av_iload K d_O_decimal_41 rfl ?_
      refine av_lshr K d_O_decimal_43 ?_
      refine av_l2i K d_O_decimal_44 ?_
      obtain rfl := Option.some.inj h
      exact av_ireturn K hr d_O_decimal_45 rfl
    · rw [if_neg hc] at h
      refine av_lload K d_O_decimal_18 rfl ?_
      refine av_lconst (v := (1 : Int64)) K d_O_decimal_20 (by decide) ?_
      refine av_iload K d_O_decimal_21 rfl ?_
      refine av_lshl K d_O_decimal_23 ?_
      refine av_lconst (v := (1 : Int64)) K d_O_decimal_24 (by decide) ?_
      refine av_lsub K d_O_decimal_25 ?_
      refine av_land K d_O_decimal_26 ?_
      refine av_ldc2 K (cl_O_31) d_O_decimal_27 ?_
      refine av_lmul K d_O_decimal_30 ?_
      refine av_lstore (L' := [none, none, none, none, some (.int v4), some (.int v5), some (.long ((v6 &&& (((1 : Int64) <<< ((v5).toInt64 &&& 63)) - (1 : Int64))) * (10 : Int64))), none, some (.int v8)]) K d_O_decimal_31 (Nat.le_of_ble_eq_true rfl) rfl ?_
      refine av_iinc (v := (v8 + (1 : Int32))) (L' := [none, none, none, none, some (.int v4), some (.int v5), some (.long ((v6 &&& (((1 : Int64) <<< ((v5).toInt64 &&& 63)) - (1 : Int64))) * (10 : Int64))), none, some (.int (v8 + (1 : Int32)))]) K d_O_decimal_33 rfl (congrArg (fun z => v8 + z) (show Int32.ofInt 1 = (1 : Int32) by decide)) (Nat.le_of_ble_eq_true rfl) rfl ?_
      refine av_goto (tgt := 11) K d_O_decimal_36 rfl ?_
      exact ih (v4) (v5) (((v6 &&& (((1 : Int64) <<< ((v5).toInt64 &&& 63)) - (1 : Int64))) * (10 : Int64))) ((v8 + (1 : Int32))) _ h
set_option maxRecDepth 100000 in
set_option maxHeartbeats 4000000 in
theorem v_O_decimal (K : av_K p s m args meth c D cl8 ca A b_O_decimal 9 R_O WS) (G : av_G NS tabON A s s.heap) (hr : meth.sig.returnType = some .int) (fu : Nat) {r : Int32 × List va_E} (v0 : Nat) (v1 : Int64) (v3 : Int32) (v4 : Int32) (w : List va_E) (h : f_O_decimal fu v0 v1 v3 v4 w = some r) : av_VI p l e rm_O_decimal s m args below meth c D cl8 A ad ca 9 r 0 [some (.ref v0), some (.long v1), none, some (.int v3), some (.int v4), none, none, none, none] [] w := by
  unfold f_O_decimal at h
  refine av_iconst (v := (4 : Int32)) K d_O_decimal_0 (by decide) ?_
  refine av_iload_n K d_O_decimal_1 rfl rfl ?_
  refine av_imul K d_O_decimal_2 ?_
  refine av_istore (L' := [some (.ref v0), some (.long v1), none, some (.int v3), some (.int v4), some (.int ((4 : Int32) * v3)), none, none, none]) K d_O_decimal_3 (Nat.le_of_ble_eq_true rfl) rfl ?_
  refine av_lload_n K d_O_decimal_5 rfl rfl ?_
  refine av_lstore (L' := [some (.ref v0), some (.long v1), none, some (.int v3), some (.int v4), some (.int ((4 : Int32) * v3)), some (.long v1), none, none]) K d_O_decimal_6 (Nat.le_of_ble_eq_true rfl) rfl ?_
  refine av_iconst (v := (0 : Int32)) K d_O_decimal_8 (by decide) ?_
  refine av_istore (L' := [some (.ref v0), some (.long v1), none, some (.int v3), some (.int v4), some (.int ((4 : Int32) * v3)), some (.long v1), none, some (.int (0 : Int32))]) K d_O_decimal_9 (Nat.le_of_ble_eq_true rfl) rfl ?_
  refine hv_fg (L' := [none, none, none, none, some (.int v4), some (.int ((4 : Int32) * v3)), some (.long v1), none, some (.int (0 : Int32))]) [0, 1, 3] rfl ?_
  exact v_O_decimal_11 K G hr fu fu (v4) (((4 : Int32) * v3)) (v1) ((0 : Int32)) _ h
end
set_option maxRecDepth 100000 in
theorem c_O_decimal {l : Launch} {D : va_G} {ca : Nat → Nat} {tab : Nat → Int64} {fu : Nat} {v0 : Nat} {v1 : Int64} {v3 : Int32} {v4 : Int32} {w : List va_E} {r : Int32 × List va_E} (h : f_O_decimal fu v0 v1 v3 v4 w = some r) : av_Ci l D cl8 ca NS tabON y_O_decimal w_O_decimal rm_O_decimal [.ref v0, .long v1, .int v3, .int v4] w (fun v u => (v, u) = r) :=
  av_inI (cc := b_O_decimal) (nL := 9) (by decide +kernel) rfl (Nat.le_of_ble_eq_true rfl) (fun p e s m args below meth c A ad K G hr => v_O_decimal K G hr fu v0 v1 v3 v4 w h)
