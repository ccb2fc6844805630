-- FaultTreeDesk$Terms.allKeptOrOff(I)J
theorem d_X_allKeptOrOff_0 : decode b_X_allKeptOrOff 0 = .ok (.ldc2_w 81, 3) := by decide +kernel
theorem d_X_allKeptOrOff_3 : decode b_X_allKeptOrOff 3 = .ok (.lstore_n 2, 1) := by decide +kernel
theorem d_X_allKeptOrOff_4 : decode b_X_allKeptOrOff 4 = .ok (.iconst 0, 1) := by decide +kernel
theorem d_X_allKeptOrOff_5 : decode b_X_allKeptOrOff 5 = .ok (.istore 4, 2) := by decide +kernel
theorem d_X_allKeptOrOff_7 : decode b_X_allKeptOrOff 7 = .ok (.iload 4, 2) := by decide +kernel
theorem d_X_allKeptOrOff_9 : decode b_X_allKeptOrOff 9 = .ok (.bipush 6, 2) := by decide +kernel
theorem d_X_allKeptOrOff_11 : decode b_X_allKeptOrOff 11 = .ok (.if_icmp .ge 31, 3) := by decide +kernel
theorem d_X_allKeptOrOff_14 : decode b_X_allKeptOrOff 14 = .ok (.iload_n 1, 1) := by decide +kernel
theorem d_X_allKeptOrOff_15 : decode b_X_allKeptOrOff 15 = .ok (.iload 4, 2) := by decide +kernel
theorem d_X_allKeptOrOff_17 : decode b_X_allKeptOrOff 17 = .ok (.ishr, 1) := by decide +kernel
theorem d_X_allKeptOrOff_18 : decode b_X_allKeptOrOff 18 = .ok (.iconst 1, 1) := by decide +kernel
theorem d_X_allKeptOrOff_19 : decode b_X_allKeptOrOff 19 = .ok (.iand, 1) := by decide +kernel
theorem d_X_allKeptOrOff_20 : decode b_X_allKeptOrOff 20 = .ok (.ifCond .ne 16, 3) := by decide +kernel
theorem d_X_allKeptOrOff_23 : decode b_X_allKeptOrOff 23 = .ok (.lload_n 2, 1) := by decide +kernel
theorem d_X_allKeptOrOff_24 : decode b_X_allKeptOrOff 24 = .ok (.getstatic 65, 3) := by decide +kernel
theorem d_X_allKeptOrOff_27 : decode b_X_allKeptOrOff 27 = .ok (.iload 4, 2) := by decide +kernel
theorem d_X_allKeptOrOff_29 : decode b_X_allKeptOrOff 29 = .ok (.laload, 1) := by decide +kernel
theorem d_X_allKeptOrOff_30 : decode b_X_allKeptOrOff 30 = .ok (.ldc2_w 81, 3) := by decide +kernel
theorem d_X_allKeptOrOff_33 : decode b_X_allKeptOrOff 33 = .ok (.lxor, 1) := by decide +kernel
theorem d_X_allKeptOrOff_34 : decode b_X_allKeptOrOff 34 = .ok (.land, 1) := by decide +kernel
theorem d_X_allKeptOrOff_35 : decode b_X_allKeptOrOff 35 = .ok (.lstore_n 2, 1) := by decide +kernel
theorem d_X_allKeptOrOff_36 : decode b_X_allKeptOrOff 36 = .ok (.iinc 4 1, 3) := by decide +kernel
theorem d_X_allKeptOrOff_39 : decode b_X_allKeptOrOff 39 = .ok (.goto (-32), 3) := by decide +kernel
theorem d_X_allKeptOrOff_42 : decode b_X_allKeptOrOff 42 = .ok (.lload_n 2, 1) := by decide +kernel
theorem d_X_allKeptOrOff_43 : decode b_X_allKeptOrOff 43 = .ok (.lreturn, 1) := by decide +kernel
def rm_X_allKeptOrOff : Room := { frames := 0, cells := 0, slots := 0, locals := 0 }
def f_X_allKeptOrOff_36 (fu : Nat) (k7 : Int32 → Int64 → Int32 → List va_E → Option (Int64 × List va_E)) (v1 : Int32) (v2 : Int64) (v4 : Int32) (w : List va_E) : Option (Int64 × List va_E) := (k7 (v1) (v2) ((v4 + (1 : Int32))) w)
def f_X_allKeptOrOff_7 (fu : Nat) : Nat → Int32 → Int64 → Int32 → List va_E → Option (Int64 × List va_E)
  | 0, _, _, _, _ => none
  | n + 1, v1, v2, v4, w => (if (6 : Int32) ≤ v4 then (some (v2, w)) else (if ((v1 >>> (v4 &&& 31)) &&& (1 : Int32)) = 0 then (if ¬ (v4 < 0 ∨ 6 ≤ (v4).toNatClampNeg) then (f_X_allKeptOrOff_36 fu (f_X_allKeptOrOff_7 fu n) (v1) ((v2 &&& ((tabON (v4).toNatClampNeg) ^^^ (-1 : Int64)))) (v4) w) else none) else (f_X_allKeptOrOff_36 fu (f_X_allKeptOrOff_7 fu n) (v1) (v2) (v4) w)))
def f_X_allKeptOrOff (fu : Nat) (v0 : Nat) (v1 : Int32) (w : List va_E) : Option (Int64 × List va_E) := (f_X_allKeptOrOff_7 fu fu (v1) ((-1 : Int64)) ((0 : Int32)) w)
section
variable {p : Program} {l : Launch} {e : Env} {s : State} {m : MethodId} {args : Array Value} {below : List Frame} {meth : Method} {c : Code} {D : va_G} {ca : Nat → Nat} {A : Nat → Prop} {ad : Nat → Nat}
set_option maxRecDepth 100000 in
set_option maxHeartbeats 4000000 in
theorem v_X_allKeptOrOff_36 (K : av_K p s m args meth c D cl8 ca A b_X_allKeptOrOff 5 R_X WS) (G : av_G NS tabON A s s.heap) (hr : meth.sig.returnType = some .long) (fu : Nat) {r : Int64 × List va_E} (k7 : Int32 → Int64 → Int32 → List va_E → Option (Int64 × List va_E)) (hk7 : ∀ (v1 : Int32) (v2 : Int64) (v4 : Int32) (w : List va_E), k7 v1 v2 v4 w = some r → av_VL p l e rm_X_allKeptOrOff s m args below meth c D cl8 A ad ca 5 r 7 [none, some (.int v1), some (.long v2), none, some (.int v4)] [] w) (v1 : Int32) (v2 : Int64) (v4 : Int32) (w : List va_E) (h : f_X_allKeptOrOff_36 fu k7 v1 v2 v4 w = some r) : av_VL p l e rm_X_allKeptOrOff s m args below meth c D cl8 A ad ca 5 r 36 [none, some (.int v1), some (.long v2), none, some (.int v4)] [] w := by
  unfold f_X_allKeptOrOff_36 at h
  refine av_iinc (v := (v4 + (1 : Int32))) (L' := [none, some (.int v1), some (.long v2), none, some (.int (v4 + (1 : Int32)))]) K d_X_allKeptOrOff_36 rfl (congrArg (fun z => v4 + z) (show Int32.ofInt 1 = (1 : Int32) by decide)) (Nat.le_of_ble_eq_true rfl) rfl ?_
  refine av_goto (tgt := 7) K d_X_allKeptOrOff_39 rfl ?_
  exact hk7 (v1) (v2) ((v4 + (1 : Int32))) _ h
set_option maxRecDepth 100000 in
set_option maxHeartbeats 4000000 in
theorem v_X_allKeptOrOff_7 (K : av_K p s m args meth c D cl8 ca A b_X_allKeptOrOff 5 R_X WS) (G : av_G NS tabON A s s.heap) (hr : meth.sig.returnType = some .long) (fu : Nat) {r : Int64 × List va_E} : ∀ (n : Nat) (v1 : Int32) (v2 : Int64) (v4 : Int32) (w : List va_E), f_X_allKeptOrOff_7 fu n v1 v2 v4 w = some r → av_VL p l e rm_X_allKeptOrOff s m args below meth c D cl8 A ad ca 5 r 7 [none, some (.int v1), some (.long v2), none, some (.int v4)] [] w := by
  intro n
  induction n with
  | zero => intro _ _ _ _ h; cases h
  | succ n ih =>
    intro v1 v2 v4 w h
    unfold f_X_allKeptOrOff_7 at h
    refine av_iload K d_X_allKeptOrOff_7 rfl ?_
    refine av_bipush (v := (6 : Int32)) K d_X_allKeptOrOff_9 (by decide) ?_
    refine av_icmp_ge (tgt := 42) K d_X_allKeptOrOff_11 rfl (fun hc => ?_) (fun hc => ?_)
    · rw [if_pos hc] at h
      refine av_lload_n K d_X_allKeptOrOff_42 rfl rfl ?_
      obtain rfl := Option.some.inj h
      exact av_lreturn K hr d_X_allKeptOrOff_43 rfl
    · rw [if_neg hc] at h
      refine av_iload_n K d_X_allKeptOrOff_14 rfl rfl ?_
      refine av_iload K d_X_allKeptOrOff_15 rfl ?_
      refine av_ishr K d_X_allKeptOrOff_17 ?_
      refine av_iconst (v := (1 : Int32)) K d_X_allKeptOrOff_18 (by decide) ?_
      refine av_iand K d_X_allKeptOrOff_19 ?_
      refine av_if_ne (tgt := 36) K d_X_allKeptOrOff_20 rfl (fun hc => ?_) (fun hc => ?_)
      · rw [if_neg hc] at h
        exact v_X_allKeptOrOff_36 K G hr fu (f_X_allKeptOrOff_7 fu n) ih (v1) (v2) (v4) _ h
      · rw [if_pos hc] at h
        refine av_lload_n K d_X_allKeptOrOff_23 rfl rfl ?_
        obtain ⟨hi27, h⟩ := hp_if h
        refine av_tab K G st_X d_X_allKeptOrOff_24 (fun H locs ls rest hL hk => lv_iload K.1 K.2.1 d_X_allKeptOrOff_27 (hL.2.2 4 _ rfl) hk) d_X_allKeptOrOff_29 hi27 ?_
        refine av_ldc2 K (cl_X_81) d_X_allKeptOrOff_30 ?_
        refine av_lxor K d_X_allKeptOrOff_33 ?_
        refine av_land K d_X_allKeptOrOff_34 ?_
        refine av_lstore_n (L' := [none, some (.int v1), some (.long (v2 &&& ((tabON (v4).toNatClampNeg) ^^^ (-1 : Int64)))), none, some (.int v4)]) K d_X_allKeptOrOff_35 rfl (Nat.le_of_ble_eq_true rfl) rfl ?_
        exact v_X_allKeptOrOff_36 K G hr fu (f_X_allKeptOrOff_7 fu n) ih (v1) ((v2 &&& ((tabON (v4).toNatClampNeg) ^^^ (-1 : Int64)))) (v4) _ h
set_option maxRecDepth 100000 in
set_option maxHeartbeats 4000000 in
theorem v_X_allKeptOrOff (K : av_K p s m args meth c D cl8 ca A b_X_allKeptOrOff 5 R_X WS) (G : av_G NS tabON A s s.heap) (hr : meth.sig.returnType = some .long) (fu : Nat) {r : Int64 × List va_E} (v0 : Nat) (v1 : Int32) (w : List va_E) (h : f_X_allKeptOrOff fu v0 v1 w = some r) : av_VL p l e rm_X_allKeptOrOff s m args below meth c D cl8 A ad ca 5 r 0 [some (.ref v0), some (.int v1), none, none, none] [] w := by
  unfold f_X_allKeptOrOff at h
  refine av_ldc2 K (cl_X_81) d_X_allKeptOrOff_0 ?_
  refine av_lstore_n (L' := [some (.ref v0), some (.int v1), some (.long (-1 : Int64)), none, none]) K d_X_allKeptOrOff_3 rfl (Nat.le_of_ble_eq_true rfl) rfl ?_
  refine av_iconst (v := (0 : Int32)) K d_X_allKeptOrOff_4 (by decide) ?_
  refine av_istore (L' := [some (.ref v0), some (.int v1), some (.long (-1 : Int64)), none, some (.int (0 : Int32))]) K d_X_allKeptOrOff_5 (Nat.le_of_ble_eq_true rfl) rfl ?_
  refine hv_fg (L' := [none, some (.int v1), some (.long (-1 : Int64)), none, some (.int (0 : Int32))]) [0] rfl ?_
  exact v_X_allKeptOrOff_7 K G hr fu fu (v1) ((-1 : Int64)) ((0 : Int32)) _ h
end
set_option maxRecDepth 100000 in
theorem c_X_allKeptOrOff {l : Launch} {D : va_G} {ca : Nat → Nat} {tab : Nat → Int64} {fu : Nat} {v0 : Nat} {v1 : Int32} {w : List va_E} {r : Int64 × List va_E} (h : f_X_allKeptOrOff fu v0 v1 w = some r) : av_Cl l D cl8 ca NS tabON y_X_allKeptOrOff w_X_allKeptOrOff rm_X_allKeptOrOff [.ref v0, .int v1] w (fun v u => (v, u) = r) :=
  av_inL (cc := b_X_allKeptOrOff) (nL := 5) (by decide +kernel) rfl (Nat.le_of_ble_eq_true rfl) (fun p e s m args below meth c A ad K G hr => v_X_allKeptOrOff K G hr fu v0 v1 w h)

-- FaultTreeDesk$Terms.flipped([JII)J
theorem d_X_flipped_0 : decode b_X_flipped 0 = .ok (.iload_n 3, 1) := by decide +kernel
theorem d_X_flipped_1 : decode b_X_flipped 1 = .ok (.bipush 6, 2) := by decide +kernel
theorem d_X_flipped_3 : decode b_X_flipped 3 = .ok (.if_icmp .lt 14, 3) := by decide +kernel
theorem d_X_flipped_6 : decode b_X_flipped 6 = .ok (.aload_n 1, 1) := by decide +kernel
theorem d_X_flipped_7 : decode b_X_flipped 7 = .ok (.iload_n 2, 1) := by decide +kernel
theorem d_X_flipped_8 : decode b_X_flipped 8 = .ok (.iconst 1, 1) := by decide +kernel
theorem d_X_flipped_9 : decode b_X_flipped 9 = .ok (.iload_n 3, 1) := by decide +kernel
theorem d_X_flipped_10 : decode b_X_flipped 10 = .ok (.bipush 6, 2) := by decide +kernel
theorem d_X_flipped_12 : decode b_X_flipped 12 = .ok (.isub, 1) := by decide +kernel
theorem d_X_flipped_13 : decode b_X_flipped 13 = .ok (.ishl, 1) := by decide +kernel
theorem d_X_flipped_14 : decode b_X_flipped 14 = .ok (.ixor, 1) := by decide +kernel
theorem d_X_flipped_15 : decode b_X_flipped 15 = .ok (.laload, 1) := by decide +kernel
theorem d_X_flipped_16 : decode b_X_flipped 16 = .ok (.lreturn, 1) := by decide +kernel
theorem d_X_flipped_17 : decode b_X_flipped 17 = .ok (.getstatic 65, 3) := by decide +kernel
theorem d_X_flipped_20 : decode b_X_flipped 20 = .ok (.iload_n 3, 1) := by decide +kernel
theorem d_X_flipped_21 : decode b_X_flipped 21 = .ok (.laload, 1) := by decide +kernel
theorem d_X_flipped_22 : decode b_X_flipped 22 = .ok (.lstore 4, 2) := by decide +kernel
theorem d_X_flipped_24 : decode b_X_flipped 24 = .ok (.iconst 1, 1) := by decide +kernel
theorem d_X_flipped_25 : decode b_X_flipped 25 = .ok (.iload_n 3, 1) := by decide +kernel
theorem d_X_flipped_26 : decode b_X_flipped 26 = .ok (.ishl, 1) := by decide +kernel
theorem d_X_flipped_27 : decode b_X_flipped 27 = .ok (.istore 6, 2) := by decide +kernel
theorem d_X_flipped_29 : decode b_X_flipped 29 = .ok (.aload_n 1, 1) := by decide +kernel
theorem d_X_flipped_30 : decode b_X_flipped 30 = .ok (.iload_n 2, 1) := by decide +kernel
theorem d_X_flipped_31 : decode b_X_flipped 31 = .ok (.laload, 1) := by decide +kernel
theorem d_X_flipped_32 : decode b_X_flipped 32 = .ok (.lload 4, 2) := by decide +kernel
theorem d_X_flipped_34 : decode b_X_flipped 34 = .ok (.land, 1) := by decide +kernel
theorem d_X_flipped_35 : decode b_X_flipped 35 = .ok (.iload 6, 2) := by decide +kernel
theorem d_X_flipped_37 : decode b_X_flipped 37 = .ok (.lushr, 1) := by decide +kernel
theorem d_X_flipped_38 : decode b_X_flipped 38 = .ok (.aload_n 1, 1) := by decide +kernel
theorem d_X_flipped_39 : decode b_X_flipped 39 = .ok (.iload_n 2, 1) := by decide +kernel
theorem d_X_flipped_40 : decode b_X_flipped 40 = .ok (.laload, 1) := by decide +kernel
theorem d_X_flipped_41 : decode b_X_flipped 41 = .ok (.iload 6, 2) := by decide +kernel
theorem d_X_flipped_43 : decode b_X_flipped 43 = .ok (.lshl, 1) := by decide +kernel
theorem d_X_flipped_44 : decode b_X_flipped 44 = .ok (.lload 4, 2) := by decide +kernel
theorem d_X_flipped_46 : decode b_X_flipped 46 = .ok (.land, 1) := by decide +kernel
theorem d_X_flipped_47 : decode b_X_flipped 47 = .ok (.lor, 1) := by decide +kernel
theorem d_X_flipped_48 : decode b_X_flipped 48 = .ok (.lreturn, 1) := by decide +kernel
def rm_X_flipped : Room := { frames := 0, cells := 0, slots := 0, locals := 0 }
def f_X_flipped (fu : Nat) (v0 : Nat) (v1 : Nat) (v2 : Int32) (v3 : Int32) (w : List va_E) : Option (Int64 × List va_E) := (if v3 < (6 : Int32) then (if ¬ (v3 < 0 ∨ 6 ≤ (v3).toNatClampNeg) then ((hp_rl w v1 v2).bind fun y1 => ((hp_rl w v1 v2).bind fun y2 => (some (((((y1 &&& (tabON (v3).toNatClampNeg))).toUInt64 >>> ((((1 : Int32) <<< (v3 &&& 31))).toInt64.toUInt64 &&& Int64.toUInt64 63)).toInt64 ||| ((y2 <<< ((((1 : Int32) <<< (v3 &&& 31))).toInt64 &&& 63)) &&& (tabON (v3).toNatClampNeg))), w)))) else none) else ((hp_rl w v1 (v2 ^^^ ((1 : Int32) <<< ((v3 - (6 : Int32)) &&& 31)))).bind fun y3 => (some (y3, w))))
section
variable {p : Program} {l : Launch} {e : Env} {s : State} {m : MethodId} {args : Array Value} {below : List Frame} {meth : Method} {c : Code} {D : va_G} {ca : Nat → Nat} {A : Nat → Prop} {ad : Nat → Nat}
set_option maxRecDepth 100000 in
set_option maxHeartbeats 4000000 in
theorem v_X_flipped (K : av_K p s m args meth c D cl8 ca A b_X_flipped 7 R_X WS) (G : av_G NS tabON A s s.heap) (hr : meth.sig.returnType = some .long) (fu : Nat) {r : Int64 × List va_E} (v0 : Nat) (v1 : Nat) (v2 : Int32) (v3 : Int32) (w : List va_E) (h : f_X_flipped fu v0 v1 v2 v3 w = some r) : av_VL p l e rm_X_flipped s m args below meth c D cl8 A ad ca 7 r 0 [some (.ref v0), some (.ref v1), some (.int v2), some (.int v3), none, none, none] [] w := by
  unfold f_X_flipped at h
  refine av_iload_n K d_X_flipped_0 rfl rfl ?_
  refine av_bipush (v := (6 : Int32)) K d_X_flipped_1 (by decide) ?_
  refine av_icmp_lt (tgt := 17) K d_X_flipped_3 rfl (fun hc => ?_) (fun hc => ?_)
  · rw [if_pos hc] at h
    obtain ⟨hi20, h⟩ := hp_if h
    refine av_tab K G st_X d_X_flipped_17 (fun H locs ls rest hL hk => lv_iload_n K.1 K.2.1 d_X_flipped_20 rfl (hL.2.2 3 _ rfl) hk) d_X_flipped_21 hi20 ?_
    refine av_lstore (L' := [some (.ref v0), some (.ref v1), some (.int v2), some (.int v3), some (.long (tabON (v3).toNatClampNeg)), none, none]) K d_X_flipped_22 (Nat.le_of_ble_eq_true rfl) rfl ?_
    refine av_iconst (v := (1 : Int32)) K d_X_flipped_24 (by decide) ?_
    refine av_iload_n K d_X_flipped_25 rfl rfl ?_
    refine av_ishl K d_X_flipped_26 ?_
    refine av_istore (L' := [some (.ref v0), some (.ref v1), some (.int v2), some (.int v3), some (.long (tabON (v3).toNatClampNeg)), none, some (.int ((1 : Int32) <<< (v3 &&& 31)))]) K d_X_flipped_27 (Nat.le_of_ble_eq_true rfl) rfl ?_
    refine av_aload_n K d_X_flipped_29 rfl rfl ?_
    refine av_iload_n K d_X_flipped_30 rfl rfl ?_
    obtain ⟨y1, ey1, h⟩ := hp_bd h
    refine hv_rl K d_X_flipped_31 ey1 ?_
    refine av_lload K d_X_flipped_32 rfl ?_
    refine av_land K d_X_flipped_34 ?_
    refine av_iload K d_X_flipped_35 rfl ?_
    refine av_lushr K d_X_flipped_37 ?_
    refine av_aload_n K d_X_flipped_38 rfl rfl ?_
    refine av_iload_n K d_X_flipped_39 rfl rfl ?_
    obtain ⟨y2, ey2, h⟩ := hp_bd h
    refine hv_rl K d_X_flipped_40 ey2 ?_
    refine av_iload K d_X_flipped_41 rfl ?_
    refine av_lshl K d_X_flipped_43 ?_
    refine av_lload K d_X_flipped_44 rfl ?_
    refine av_land K d_X_flipped_46 ?_
    refine av_lor K d_X_flipped_47 ?_
    obtain rfl := Option.some.inj h
    exact av_lreturn K hr d_X_flipped_48 rfl
  · rw [if_neg hc] at h
    refine av_aload_n K d_X_flipped_6 rfl rfl ?_
    refine av_iload_n K d_X_flipped_7 rfl rfl ?_
    refine av_iconst (v := (1 : Int32)) K d_X_flipped_8 (by decide) ?_
    refine av_iload_n K d_X_flipped_9 rfl rfl ?_
    refine av_bipush (v := (6 : Int32)) K d_X_flipped_10 (by decide) ?_
    refine av_isub K d_X_flipped_12 ?_
    refine av_ishl K d_X_flipped_13 ?_
    refine av_ixor K d_X_flipped_14 ?_
    obtain ⟨y3, ey3, h⟩ := hp_bd h
    refine hv_rl K d_X_flipped_15 ey3 ?_
    obtain rfl := Option.some.inj h
    exact av_lreturn K hr d_X_flipped_16 rfl
end
set_option maxRecDepth 100000 in
theorem c_X_flipped {l : Launch} {D : va_G} {ca : Nat → Nat} {tab : Nat → Int64} {fu : Nat} {v0 : Nat} {v1 : Nat} {v2 : Int32} {v3 : Int32} {w : List va_E} {r : Int64 × List va_E} (h : f_X_flipped fu v0 v1 v2 v3 w = some r) : av_Cl l D cl8 ca NS tabON y_X_flipped w_X_flipped rm_X_flipped [.ref v0, .ref v1, .int v2, .int v3] w (fun v u => (v, u) = r) :=
  av_inL (cc := b_X_flipped) (nL := 7) (by decide +kernel) rfl (Nat.le_of_ble_eq_true rfl) (fun p e s m args below meth c A ad K G hr => v_X_flipped K G hr fu v0 v1 v2 v3 w h)

-- FaultTreeDesk$Terms.primeSettings(II)J
theorem d_X_primeSettings_0 : decode b_X_primeSettings 0 = .ok (.aload_n 0, 1) := by decide +kernel
theorem d_X_primeSettings_1 : decode b_X_primeSettings 1 = .ok (.getfield 17, 3) := by decide +kernel
theorem d_X_primeSettings_4 : decode b_X_primeSettings 4 = .ok (.iconst 0, 1) := by decide +kernel
theorem d_X_primeSettings_5 : decode b_X_primeSettings 5 = .ok (.aaload, 1) := by decide +kernel
theorem d_X_primeSettings_6 : decode b_X_primeSettings 6 = .ok (.iload_n 2, 1) := by decide +kernel
theorem d_X_primeSettings_7 : decode b_X_primeSettings 7 = .ok (.laload, 1) := by decide +kernel
theorem d_X_primeSettings_8 : decode b_X_primeSettings 8 = .ok (.lstore_n 3, 1) := by decide +kernel
theorem d_X_primeSettings_9 : decode b_X_primeSettings 9 = .ok (.iconst 0, 1) := by decide +kernel
theorem d_X_primeSettings_10 : decode b_X_primeSettings 10 = .ok (.istore 5, 2) := by decide +kernel
theorem d_X_primeSettings_12 : decode b_X_primeSettings 12 = .ok (.iload 5, 2) := by decide +kernel
theorem d_X_primeSettings_14 : decode b_X_primeSettings 14 = .ok (.bipush 10, 2) := by decide +kernel
theorem d_X_primeSettings_16 : decode b_X_primeSettings 16 = .ok (.if_icmp .ge 44, 3) := by decide +kernel
theorem d_X_primeSettings_19 : decode b_X_primeSettings 19 = .ok (.lload_n 3, 1) := by decide +kernel
theorem d_X_primeSettings_20 : decode b_X_primeSettings 20 = .ok (.lconst 0, 1) := by decide +kernel
theorem d_X_primeSettings_21 : decode b_X_primeSettings 21 = .ok (.lcmp, 1) := by decide +kernel
theorem d_X_primeSettings_22 : decode b_X_primeSettings 22 = .ok (.ifCond .eq 38, 3) := by decide +kernel
theorem d_X_primeSettings_25 : decode b_X_primeSettings 25 = .ok (.iload_n 1, 1) := by decide +kernel
theorem d_X_primeSettings_26 : decode b_X_primeSettings 26 = .ok (.iload 5, 2) := by decide +kernel
theorem d_X_primeSettings_28 : decode b_X_primeSettings 28 = .ok (.ishr, 1) := by decide +kernel
theorem d_X_primeSettings_29 : decode b_X_primeSettings 29 = .ok (.iconst 1, 1) := by decide +kernel
theorem d_X_primeSettings_30 : decode b_X_primeSettings 30 = .ok (.iand, 1) := by decide +kernel
theorem d_X_primeSettings_31 : decode b_X_primeSettings 31 = .ok (.ifCond .eq 23, 3) := by decide +kernel
theorem d_X_primeSettings_34 : decode b_X_primeSettings 34 = .ok (.lload_n 3, 1) := by decide +kernel
theorem d_X_primeSettings_35 : decode b_X_primeSettings 35 = .ok (.aload_n 0, 1) := by decide +kernel
theorem d_X_primeSettings_36 : decode b_X_primeSettings 36 = .ok (.aload_n 0, 1) := by decide +kernel
theorem d_X_primeSettings_37 : decode b_X_primeSettings 37 = .ok (.getfield 17, 3) := by decide +kernel
theorem d_X_primeSettings_40 : decode b_X_primeSettings 40 = .ok (.iconst 0, 1) := by decide +kernel
theorem d_X_primeSettings_41 : decode b_X_primeSettings 41 = .ok (.aaload, 1) := by decide +kernel
theorem d_X_primeSettings_42 : decode b_X_primeSettings 42 = .ok (.iload_n 2, 1) := by decide +kernel
theorem d_X_primeSettings_43 : decode b_X_primeSettings 43 = .ok (.iload 5, 2) := by decide +kernel
theorem d_X_primeSettings_45 : decode b_X_primeSettings 45 = .ok (.invokevirtual 55, 3) := by decide +kernel
theorem d_X_primeSettings_48 : decode b_X_primeSettings 48 = .ok (.ldc2_w 81, 3) := by decide +kernel
theorem d_X_primeSettings_51 : decode b_X_primeSettings 51 = .ok (.lxor, 1) := by decide +kernel
theorem d_X_primeSettings_52 : decode b_X_primeSettings 52 = .ok (.land, 1) := by decide +kernel
theorem d_X_primeSettings_53 : decode b_X_primeSettings 53 = .ok (.lstore_n 3, 1) := by decide +kernel
theorem d_X_primeSettings_54 : decode b_X_primeSettings 54 = .ok (.iinc 5 1, 3) := by decide +kernel
theorem d_X_primeSettings_57 : decode b_X_primeSettings 57 = .ok (.goto (-45), 3) := by decide +kernel
theorem d_X_primeSettings_60 : decode b_X_primeSettings 60 = .ok (.lload_n 3, 1) := by decide +kernel
theorem d_X_primeSettings_61 : decode b_X_primeSettings 61 = .ok (.lreturn, 1) := by decide +kernel
def rm_X_primeSettings : Room := { frames := 1, cells := 0, slots := 0, locals := 26 }
def f_X_primeSettings_60 (fu : Nat) (v3 : Int64) (w : List va_E) : Option (Int64 × List va_E) := (some (v3, w))
def f_X_primeSettings_54 (fu : Nat) (k12 : Nat → Int32 → Int32 → Int64 → Int32 → List va_E → Option (Int64 × List va_E)) (v0 : Nat) (v1 : Int32) (v2 : Int32) (v3 : Int64) (v5 : Int32) (w : List va_E) : Option (Int64 × List va_E) := (k12 (v0) (v1) (v2) (v3) ((v5 + (1 : Int32))) w)
def f_X_primeSettings_12 (fu : Nat) : Nat → Nat → Int32 → Int32 → Int64 → Int32 → List va_E → Option (Int64 × List va_E)
  | 0, _, _, _, _, _, _ => none
  | n + 1, v0, v1, v2, v3, v5, w => (if (10 : Int32) ≤ v5 then (f_X_primeSettings_60 fu (v3) w) else (if (lg_cmp v3 (0 : Int64)) = 0 then (f_X_primeSettings_60 fu (v3) w) else (if ((v1 >>> (v5 &&& 31)) &&& (1 : Int32)) = 0 then (f_X_primeSettings_54 fu (f_X_primeSettings_12 fu n) (v0) (v1) (v2) (v3) (v5) w) else ((hp_gr w v0 4 1).bind fun q1 => ((hp_ra w q1 (0 : Int32)).bind fun q2 => ((hp_is w v0 4).bind fun _ => ((f_X_flipped fu v0 q2 v2 v5 w).bind fun r3 => (f_X_primeSettings_54 fu (f_X_primeSettings_12 fu n) (v0) (v1) (v2) ((v3 &&& (r3.1 ^^^ (-1 : Int64)))) (v5) r3.2))))))))
def f_X_primeSettings (fu : Nat) (v0 : Nat) (v1 : Int32) (v2 : Int32) (w : List va_E) : Option (Int64 × List va_E) := ((hp_gr w v0 4 1).bind fun q1 => ((hp_ra w q1 (0 : Int32)).bind fun q2 => ((hp_rl w q2 v2).bind fun y3 => (f_X_primeSettings_12 fu fu (v0) (v1) (v2) (y3) ((0 : Int32)) w))))
section
variable {p : Program} {l : Launch} {e : Env} {s : State} {m : MethodId} {args : Array Value} {below : List Frame} {meth : Method} {c : Code} {D : va_G} {ca : Nat → Nat} {A : Nat → Prop} {ad : Nat → Nat}
set_option maxRecDepth 100000 in
set_option maxHeartbeats 4000000 in
theorem v_X_primeSettings_60 (K : av_K p s m args meth c D cl8 ca A b_X_primeSettings 6 R_X WS) (G : av_G NS tabON A s s.heap) (hr : meth.sig.returnType = some .long) (fu : Nat) {r : Int64 × List va_E} (v3 : Int64) (w : List va_E) (h : f_X_primeSettings_60 fu v3 w = some r) : av_VL p l e rm_X_primeSettings s m args below meth c D cl8 A ad ca 6 r 60 [none, none, none, some (.long v3), none, none] [] w := by
  unfold f_X_primeSettings_60 at h
  refine av_lload_n K d_X_primeSettings_60 rfl rfl ?_
  obtain rfl := Option.some.inj h
  exact av_lreturn K hr d_X_primeSettings_61 rfl
set_option maxRecDepth 100000 in
set_option maxHeartbeats 4000000 in
theorem v_X_primeSettings_54 (K : av_K p s m args meth c D cl8 ca A b_X_primeSettings 6 R_X WS) (G : av_G NS tabON A s s.heap) (hr : meth.sig.returnType = some .long) (fu : Nat) {r : Int64 × List va_E} (k12 : Nat → Int32 → Int32 → Int64 → Int32 → List va_E → Option (Int64 × List va_E)) (hk12 : ∀ (v0 : Nat) (v1 : Int32) (v2 : Int32) (v3 : Int64) (v5 : Int32) (w : List va_E), k12 v0 v1 v2 v3 v5 w = some r → av_VL p l e rm_X_primeSettings s m args below meth c D cl8 A ad ca 6 r 12 [some (.ref v0), some (.int v1), some (.int v2), some (.long v3), none, some (.int v5)] [] w) (v0 : Nat) (v1 : Int32) (v2 : Int32) (v3 : Int64) (v5 : Int32) (w : List va_E) (h : f_X_primeSettings_54 fu k12 v0 v1 v2 v3 v5 w = some r) : av_VL p l e rm_X_primeSettings s m args below meth c D cl8 A ad ca 6 r 54 [some (.ref v0), some (.int v1), some (.int v2), some (.long v3), none, some (.int v5)] [] w := by
  unfold f_X_primeSettings_54 at h
  refine av_iinc (v := (v5 + (1 : Int32))) (L' := [some (.ref v0), some (.int v1), some (.int v2), some (.long v3), none, some (.int (v5 + (1 : Int32)))]) K d_X_primeSettings_54 rfl (congrArg (fun z => v5 + z) (show Int32.ofInt 1 = (1 : Int32) by decide)) (Nat.le_of_ble_eq_true rfl) rfl ?_
  refine av_goto (tgt := 12) K d_X_primeSettings_57 rfl ?_
  exact hk12 (v0) (v1) (v2) (v3) ((v5 + (1 : Int32))) _ h
set_option maxRecDepth 100000 in
set_option maxHeartbeats 4000000 in
theorem v_X_primeSettings_12 (K : av_K p s m args meth c D cl8 ca A b_X_primeSettings 6 R_X WS) (G : av_G NS tabON A s s.heap) (hr : meth.sig.returnType = some .long) (fu : Nat) {r : Int64 × List va_E} : ∀ (n : Nat) (v0 : Nat) (v1 : Int32) (v2 : Int32) (v3 : Int64) (v5 : Int32) (w : List va_E), f_X_primeSettings_12 fu n v0 v1 v2 v3 v5 w = some r → av_VL p l e rm_X_primeSettings s m args below meth c D cl8 A ad ca 6 r 12 [some (.ref v0), some (.int v1), some (.int v2), some (.long v3), none, some (.int v5)] [] w := by
  intro n
  induction n with
  | zero => intro _ _ _ _ _ _ h; cases h
  | succ n ih =>
    intro v0 v1 v2 v3 v5 w h
    unfold f_X_primeSettings_12 at h
    refine av_iload K d_X_primeSettings_12 rfl ?_
    refine av_bipush (v := (10 : Int32)) K d_X_primeSettings_14 (by decide) ?_
    refine av_icmp_ge (tgt := 60) K d_X_primeSettings_16 rfl (fun hc => ?_) (fun hc => ?_)
    · rw [if_pos hc] at h
      refine hv_fg (L' := [none, none, none, some (.long v3), none, none]) [0, 1, 2, 5] rfl ?_
      exact v_X_primeSettings_60 K G hr fu (v3) _ h
    · rw [if_neg hc] at h
      refine av_lload_n K d_X_primeSettings_19 rfl rfl ?_
      refine av_lconst (v := (0 : Int64)) K d_X_primeSettings_20 (by decide) ?_
      refine av_lcmp K d_X_primeSettings_21 ?_
      refine av_if_eq (tgt := 60) K d_X_primeSettings_22 rfl (fun hc => ?_) (fun hc => ?_)
      · rw [if_pos hc] at h
        refine hv_fg (L' := [none, none, none, some (.long v3), none, none]) [0, 1, 2, 5] rfl ?_
        exact v_X_primeSettings_60 K G hr fu (v3) _ h
      · rw [if_neg hc] at h
        refine av_iload_n K d_X_primeSettings_25 rfl rfl ?_
        refine av_iload K d_X_primeSettings_26 rfl ?_
        refine av_ishr K d_X_primeSettings_28 ?_
        refine av_iconst (v := (1 : Int32)) K d_X_primeSettings_29 (by decide) ?_
        refine av_iand K d_X_primeSettings_30 ?_
        refine av_if_eq (tgt := 54) K d_X_primeSettings_31 rfl (fun hc => ?_) (fun hc => ?_)
        · rw [if_pos hc] at h
          exact v_X_primeSettings_54 K G hr fu (f_X_primeSettings_12 fu n) ih (v0) (v1) (v2) (v3) (v5) _ h
        · rw [if_neg hc] at h
          refine av_lload_n K d_X_primeSettings_34 rfl rfl ?_
          refine av_aload_n K d_X_primeSettings_35 rfl rfl ?_
          refine av_aload_n K d_X_primeSettings_36 rfl rfl ?_
          obtain ⟨q1, eq1, h⟩ := hp_bd h
          refine hv_gr K fl_X_17 d_X_primeSettings_37 eq1 ?_
          refine av_iconst (v := (0 : Int32)) K d_X_primeSettings_40 (by decide) ?_
          obtain ⟨q2, eq2, h⟩ := hp_bd h
          refine hv_ra K d_X_primeSettings_41 eq2 ?_
          refine av_iload_n K d_X_primeSettings_42 rfl rfl ?_
          refine av_iload K d_X_primeSettings_43 rfl ?_
          obtain ⟨_, eo45, h⟩ := hp_bd h
          obtain ⟨r3, er3, h⟩ := hp_bd h
          obtain ⟨fs45, ho45⟩ := hp_is_of eo45
          refine av_cVl K G (c_X_flipped (tab := tabON) er3) (cwV 3 K.2.2.2.2.1 (gV ml_X_55 im_X_flipped se_X_flipped in_X co_X_flipped) rfl rfl rfl cd_X_flipped ⟨Nat.le_of_ble_eq_true rfl, Nat.le_of_ble_eq_true rfl⟩) rfl ho45 rfl rfl (Nat.le_of_ble_eq_true rfl) d_X_primeSettings_45 ⟨Nat.zero_le _, Nat.zero_le _⟩ (fun a9 u9 h9 => ?_)
          obtain ⟨rfl, rfl⟩ : a9 = r3.1 ∧ u9 = r3.2 := ⟨congrArg Prod.fst h9, congrArg Prod.snd h9⟩
          refine av_ldc2 K (cl_X_81) d_X_primeSettings_48 ?_
          refine av_lxor K d_X_primeSettings_51 ?_
          refine av_land K d_X_primeSettings_52 ?_
          refine av_lstore_n (L' := [some (.ref v0), some (.int v1), some (.int v2), some (.long (v3 &&& (r3.1 ^^^ (-1 : Int64)))), none, some (.int v5)]) K d_X_primeSettings_53 rfl (Nat.le_of_ble_eq_true rfl) rfl ?_
          exact v_X_primeSettings_54 K G hr fu (f_X_primeSettings_12 fu n) ih (v0) (v1) (v2) ((v3 &&& (r3.1 ^^^ (-1 : Int64)))) (v5) _ h
set_option maxRecDepth 100000 in
set_option maxHeartbeats 4000000 in
theorem v_X_primeSettings (K : av_K p s m args meth c D cl8 ca A b_X_primeSettings 6 R_X WS) (G : av_G NS tabON A s s.heap) (hr : meth.sig.returnType = some .long) (fu : Nat) {r : Int64 × List va_E} (v0 : Nat) (v1 : Int32) (v2 : Int32) (w : List va_E) (h : f_X_primeSettings fu v0 v1 v2 w = some r) : av_VL p l e rm_X_primeSettings s m args below meth c D cl8 A ad ca 6 r 0 [some (.ref v0), some (.int v1), some (.int v2), none, none, none] [] w := by
  unfold f_X_primeSettings at h
  refine av_aload_n K d_X_primeSettings_0 rfl rfl ?_
  obtain ⟨q1, eq1, h⟩ := hp_bd h
  refine hv_gr K fl_X_17 d_X_primeSettings_1 eq1 ?_
  refine av_iconst (v := (0 : Int32)) K d_X_primeSettings_4 (by decide) ?_
  obtain ⟨q2, eq2, h⟩ := hp_bd h
  refine hv_ra K d_X_primeSettings_5 eq2 ?_
  refine av_iload_n K d_X_primeSettings_6 rfl rfl ?_
  obtain ⟨y3, ey3, h⟩ := hp_bd h
  refine hv_rl K d_X_primeSettings_7 ey3 ?_
  refine av_lstore_n (L' := [some (.ref v0), some (.int v1), some (.int v2), some (.long y3), none, none]) K d_X_primeSettings_8 rfl (Nat.le_of_ble_eq_true rfl) rfl ?_
  refine av_iconst (v := (0 : Int32)) K d_X_primeSettings_9 (by decide) ?_
  refine av_istore (L' := [some (.ref v0), some (.int v1), some (.int v2), some (.long y3), none, some (.int (0 : Int32))]) K d_X_primeSettings_10 (Nat.le_of_ble_eq_true rfl) rfl ?_
  exact v_X_primeSettings_12 K G hr fu fu (v0) (v1) (v2) (y3) ((0 : Int32)) _ h
end
set_option maxRecDepth 100000 in
theorem c_X_primeSettings {l : Launch} {D : va_G} {ca : Nat → Nat} {tab : Nat → Int64} {fu : Nat} {v0 : Nat} {v1 : Int32} {v2 : Int32} {w : List va_E} {r : Int64 × List va_E} (h : f_X_primeSettings fu v0 v1 v2 w = some r) : av_Cl l D cl8 ca NS tabON y_X_primeSettings w_X_primeSettings rm_X_primeSettings [.ref v0, .int v1, .int v2] w (fun v u => (v, u) = r) :=
  av_inL (cc := b_X_primeSettings) (nL := 6) (by decide +kernel) rfl (Nat.le_of_ble_eq_true rfl) (fun p e s m args below meth c A ad K G hr => v_X_primeSettings K G hr fu v0 v1 v2 w h)

-- FaultTreeDesk$Terms.insert(I)V
theorem d_X_insert_0 : decode b_X_insert 0 = .ok (.aload_n 0, 1) := by decide +kernel
theorem d_X_insert_1 : decode b_X_insert 1 = .ok (.getfield 24, 3) := by decide +kernel
theorem d_X_insert_4 : decode b_X_insert 4 = .ok (.sipush 300, 3) := by decide +kernel
theorem d_X_insert_7 : decode b_X_insert 7 = .ok (.if_icmp .lt 9, 3) := by decide +kernel
theorem d_X_insert_10 : decode b_X_insert 10 = .ok (.aload_n 0, 1) := by decide +kernel
theorem d_X_insert_11 : decode b_X_insert 11 = .ok (.iconst 1, 1) := by decide +kernel
theorem d_X_insert_12 : decode b_X_insert 12 = .ok (.putfield 27, 3) := by decide +kernel
theorem d_X_insert_15 : decode b_X_insert 15 = .ok (.return_, 1) := by decide +kernel
theorem d_X_insert_16 : decode b_X_insert 16 = .ok (.aload_n 0, 1) := by decide +kernel
theorem d_X_insert_17 : decode b_X_insert 17 = .ok (.getfield 24, 3) := by decide +kernel
theorem d_X_insert_20 : decode b_X_insert 20 = .ok (.istore_n 2, 1) := by decide +kernel
theorem d_X_insert_21 : decode b_X_insert 21 = .ok (.iload_n 2, 1) := by decide +kernel
theorem d_X_insert_22 : decode b_X_insert 22 = .ok (.ifCond .le 35, 3) := by decide +kernel
theorem d_X_insert_25 : decode b_X_insert 25 = .ok (.aload_n 0, 1) := by decide +kernel
theorem d_X_insert_26 : decode b_X_insert 26 = .ok (.getfield 9, 3) := by decide +kernel
theorem d_X_insert_29 : decode b_X_insert 29 = .ok (.iload_n 2, 1) := by decide +kernel
theorem d_X_insert_30 : decode b_X_insert 30 = .ok (.iconst 1, 1) := by decide +kernel
theorem d_X_insert_31 : decode b_X_insert 31 = .ok (.isub, 1) := by decide +kernel
theorem d_X_insert_32 : decode b_X_insert 32 = .ok (.iaload, 1) := by decide +kernel
theorem d_X_insert_33 : decode b_X_insert 33 = .ok (.iload_n 1, 1) := by decide +kernel
theorem d_X_insert_34 : decode b_X_insert 34 = .ok (.if_icmp .le 23, 3) := by decide +kernel
theorem d_X_insert_37 : decode b_X_insert 37 = .ok (.aload_n 0, 1) := by decide +kernel
theorem d_X_insert_38 : decode b_X_insert 38 = .ok (.getfield 9, 3) := by decide +kernel
theorem d_X_insert_41 : decode b_X_insert 41 = .ok (.iload_n 2, 1) := by decide +kernel
theorem d_X_insert_42 : decode b_X_insert 42 = .ok (.aload_n 0, 1) := by decide +kernel
theorem d_X_insert_43 : decode b_X_insert 43 = .ok (.getfield 9, 3) := by decide +kernel
theorem d_X_insert_46 : decode b_X_insert 46 = .ok (.iload_n 2, 1) := by decide +kernel
theorem d_X_insert_47 : decode b_X_insert 47 = .ok (.iconst 1, 1) := by decide +kernel
theorem d_X_insert_48 : decode b_X_insert 48 = .ok (.isub, 1) := by decide +kernel
theorem d_X_insert_49 : decode b_X_insert 49 = .ok (.iaload, 1) := by decide +kernel
theorem d_X_insert_50 : decode b_X_insert 50 = .ok (.iastore, 1) := by decide +kernel
theorem d_X_insert_51 : decode b_X_insert 51 = .ok (.iinc 2 (-1), 3) := by decide +kernel
theorem d_X_insert_54 : decode b_X_insert 54 = .ok (.goto (-33), 3) := by decide +kernel
theorem d_X_insert_57 : decode b_X_insert 57 = .ok (.aload_n 0, 1) := by decide +kernel
theorem d_X_insert_58 : decode b_X_insert 58 = .ok (.getfield 9, 3) := by decide +kernel
theorem d_X_insert_61 : decode b_X_insert 61 = .ok (.iload_n 2, 1) := by decide +kernel
theorem d_X_insert_62 : decode b_X_insert 62 = .ok (.iload_n 1, 1) := by decide +kernel
theorem d_X_insert_63 : decode b_X_insert 63 = .ok (.iastore, 1) := by decide +kernel
theorem d_X_insert_64 : decode b_X_insert 64 = .ok (.aload_n 0, 1) := by decide +kernel
theorem d_X_insert_65 : decode b_X_insert 65 = .ok (.dup, 1) := by decide +kernel
theorem d_X_insert_66 : decode b_X_insert 66 = .ok (.getfield 24, 3) := by decide +kernel
theorem d_X_insert_69 : decode b_X_insert 69 = .ok (.iconst 1, 1) := by decide +kernel
theorem d_X_insert_70 : decode b_X_insert 70 = .ok (.iadd, 1) := by decide +kernel
theorem d_X_insert_71 : decode b_X_insert 71 = .ok (.putfield 24, 3) := by decide +kernel
theorem d_X_insert_74 : decode b_X_insert 74 = .ok (.return_, 1) := by decide +kernel
def rm_X_insert : Room := { frames := 0, cells := 0, slots := 0, locals := 0 }
def f_X_insert_57 (fu : Nat) (v0 : Nat) (v1 : Int32) (v2 : Int32) (w : List va_E) : Option (List va_E) := ((hp_gr w v0 4 0).bind fun q1 => ((hp_wi w q1 v2 v1).bind fun w2 => ((hp_gi w2 v0 4 3).bind fun x3 => ((hp_pi w2 v0 4 3 (x3 + (1 : Int32))).bind fun w4 => (some w4)))))
def f_X_insert_21 (fu : Nat) : Nat → Nat → Int32 → Int32 → List va_E → Option (List va_E)
  | 0, _, _, _, _ => none
  | n + 1, v0, v1, v2, w => (if v2 ≤ 0 then (f_X_insert_57 fu (v0) (v1) (v2) w) else ((hp_gr w v0 4 0).bind fun q1 => ((hp_ri w q1 (v2 - (1 : Int32))).bind fun x2 => (if x2 ≤ v1 then (f_X_insert_57 fu (v0) (v1) (v2) w) else ((hp_gr w v0 4 0).bind fun q3 => ((hp_gr w v0 4 0).bind fun q4 => ((hp_ri w q4 (v2 - (1 : Int32))).bind fun x5 => ((hp_wi w q3 v2 x5).bind fun w6 => (f_X_insert_21 fu n (v0) (v1) ((v2 + (-1 : Int32))) w6)))))))))
def f_X_insert (fu : Nat) (v0 : Nat) (v1 : Int32) (w : List va_E) : Option (List va_E) := ((hp_gi w v0 4 3).bind fun x1 => (if x1 < (300 : Int32) then ((hp_gi w v0 4 3).bind fun x2 => (f_X_insert_21 fu fu (v0) (v1) (x2) w)) else ((hp_pz w v0 4 4 (1 : Int32)).bind fun w3 => (some w3))))
section
variable {p : Program} {l : Launch} {e : Env} {s : State} {m : MethodId} {args : Array Value} {below : List Frame} {meth : Method} {c : Code} {D : va_G} {ca : Nat → Nat} {A : Nat → Prop} {ad : Nat → Nat}
set_option maxRecDepth 100000 in
set_option maxHeartbeats 4000000 in
theorem v_X_insert_57 (K : av_K p s m args meth c D cl8 ca A b_X_insert 3 R_X WS) (G : av_G NS tabON A s s.heap) (hr : meth.sig.returnType = none) (fu : Nat) {r : List va_E} (v0 : Nat) (v1 : Int32) (v2 : Int32) (w : List va_E) (h : f_X_insert_57 fu v0 v1 v2 w = some r) : av_VV p l e rm_X_insert s m args below meth c D cl8 A ad ca 3 r 57 [some (.ref v0), some (.int v1), some (.int v2)] [] w := by
  unfold f_X_insert_57 at h
  refine av_aload_n K d_X_insert_57 rfl rfl ?_
  obtain ⟨q1, eq1, h⟩ := hp_bd h
  refine hv_gr K fl_X_9 d_X_insert_58 eq1 ?_
  refine av_iload_n K d_X_insert_61 rfl rfl ?_
  refine av_iload_n K d_X_insert_62 rfl rfl ?_
  obtain ⟨w2, ew2, h⟩ := hp_bd h
  refine hv_wi K d_X_insert_63 ew2 ?_
  refine av_aload_n K d_X_insert_64 rfl rfl ?_
  refine av_dup K d_X_insert_65 rfl ?_
  obtain ⟨x3, ex3, h⟩ := hp_bd h
  refine hv_gi K fl_X_24 d_X_insert_66 ex3 ?_
  refine av_iconst (v := (1 : Int32)) K d_X_insert_69 (by decide) ?_
  refine av_iadd K d_X_insert_70 ?_
  obtain ⟨w4, ew4, h⟩ := hp_bd h
  refine hv_pi K fp_X_24 d_X_insert_71 ew4 ?_
  obtain rfl := Option.some.inj h
  exact av_return K hr d_X_insert_74 rfl
set_option maxRecDepth 100000 in
set_option maxHeartbeats 4000000 in
theorem v_X_insert_21 (K : av_K p s m args meth c D cl8 ca A b_X_insert 3 R_X WS) (G : av_G NS tabON A s s.heap) (hr : meth.sig.returnType = none) (fu : Nat) {r : List va_E} : ∀ (n : Nat) (v0 : Nat) (v1 : Int32) (v2 : Int32) (w : List va_E), f_X_insert_21 fu n v0 v1 v2 w = some r → av_VV p l e rm_X_insert s m args below meth c D cl8 A ad ca 3 r 21 [some (.ref v0), some (.int v1), some (.int v2)] [] w := by
  intro n
  induction n with
  | zero => intro _ _ _ _ h; cases h
  | succ n ih =>
    intro v0 v1 v2 w h
    unfold f_X_insert_21 at h
    refine av_iload_n K d_X_insert_21 rfl rfl ?_
    refine av_if_le (tgt := 57) K d_X_insert_22 rfl (fun hc => ?_) (fun hc => ?_)
    · rw [if_pos hc] at h
      exact v_X_insert_57 K G hr fu (v0) (v1) (v2) _ h
    · rw [if_neg hc] at h
      refine av_aload_n K d_X_insert_25 rfl rfl ?_
      obtain ⟨q1, eq1, h⟩ := hp_bd h
      refine hv_gr K fl_X_9 d_X_insert_26 eq1 ?_
      refine av_iload_n K d_X_insert_29 rfl rfl ?_
      refine av_iconst (v := (1 : Int32)) K d_X_insert_30 (by decide) ?_
      refine av_isub K d_X_insert_31 ?_
      obtain ⟨x2, ex2, h⟩ := hp_bd h
      refine hv_ri K d_X_insert_32 ex2 ?_
      refine av_iload_n K d_X_insert_33 rfl rfl ?_
      refine av_icmp_le (tgt := 57) K d_X_insert_34 rfl (fun hc => ?_) (fun hc => ?_)
      · rw [if_pos hc] at h
        exact v_X_insert_57 K G hr fu (v0) (v1) (v2) _ h
      · rw [if_neg hc] at h
        refine av_aload_n K d_X_insert_37 rfl rfl ?_
        obtain ⟨q3, eq3, h⟩ := hp_bd h
        refine hv_gr K fl_X_9 d_X_insert_38 eq3 ?_
        refine av_iload_n K d_X_insert_41 rfl rfl ?_
        refine av_aload_n K d_X_insert_42 rfl rfl ?_
        obtain ⟨q4, eq4, h⟩ := hp_bd h
        refine hv_gr K fl_X_9 d_X_insert_43 eq4 ?_
        refine av_iload_n K d_X_insert_46 rfl rfl ?_
        refine av_iconst (v := (1 : Int32)) K d_X_insert_47 (by decide) ?_
        refine av_isub K d_X_insert_48 ?_
        obtain ⟨x5, ex5, h⟩ := hp_bd h
        refine hv_ri K d_X_insert_49 ex5 ?_
        obtain ⟨w6, ew6, h⟩ := hp_bd h
        refine hv_wi K d_X_insert_50 ew6 ?_
        refine av_iinc (v := (v2 + (-1 : Int32))) (L' := [some (.ref v0), some (.int v1), some (.int (v2 + (-1 : Int32)))]) K d_X_insert_51 rfl (congrArg (fun z => v2 + z) (show Int32.ofInt (-1) = (-1 : Int32) by decide)) (Nat.le_of_ble_eq_true rfl) rfl ?_
        refine av_goto (tgt := 21) K d_X_insert_54 rfl ?_
        exact ih (v0) (v1) ((v2 + (-1 : Int32))) _ h
set_option maxRecDepth 100000 in
set_option maxHeartbeats 4000000 in
theorem v_X_insert (K : av_K p s m args meth c D cl8 ca A b_X_insert 3 R_X WS) (G : av_G NS tabON A s s.heap) (hr : meth.sig.returnType = none) (fu : Nat) {r : List va_E} (v0 : Nat) (v1 : Int32) (w : List va_E) (h : f_X_insert fu v0 v1 w = some r) : av_VV p l e rm_X_insert s m args below meth c D cl8 A ad ca 3 r 0 [some (.ref v0), some (.int v1), none] [] w := by
  unfold f_X_insert at h
  refine av_aload_n K d_X_insert_0 rfl rfl ?_
  obtain ⟨x1, ex1, h⟩ := hp_bd h
  refine hv_gi K fl_X_24 d_X_insert_1 ex1 ?_
  refine av_sipush (v := (300 : Int32)) K d_X_insert_4 (by decide) ?_
  refine av_icmp_lt (tgt := 16) K d_X_insert_7 rfl (fun hc => ?_) (fun hc => ?_)
  · rw [if_pos hc] at h
    refine av_aload_n K d_X_insert_16 rfl rfl ?_
    obtain ⟨x2, ex2, h⟩ := hp_bd h
    refine hv_gi K fl_X_24 d_X_insert_17 ex2 ?_
    refine av_istore_n (L' := [some (.ref v0), some (.int v1), some (.int x2)]) K d_X_insert_20 rfl (Nat.le_of_ble_eq_true rfl) rfl ?_
    exact v_X_insert_21 K G hr fu fu (v0) (v1) (x2) _ h
  · rw [if_neg hc] at h
    refine av_aload_n K d_X_insert_10 rfl rfl ?_
    refine av_iconst (v := (1 : Int32)) K d_X_insert_11 (by decide) ?_
    obtain ⟨w3, ew3, h⟩ := hp_bd h
    refine hv_pz K fp_X_27 d_X_insert_12 ew3 ?_
    obtain rfl := Option.some.inj h
    exact av_return K hr d_X_insert_15 rfl
end
set_option maxRecDepth 100000 in
theorem c_X_insert {l : Launch} {D : va_G} {ca : Nat → Nat} {tab : Nat → Int64} {fu : Nat} {v0 : Nat} {v1 : Int32} {w : List va_E} {r : List va_E} (h : f_X_insert fu v0 v1 w = some r) : av_Cv l D cl8 ca NS tabON y_X_insert w_X_insert rm_X_insert [.ref v0, .int v1] w (fun u => u = r) :=
  av_inV (cc := b_X_insert) (nL := 3) (by decide +kernel) rfl (Nat.le_of_ble_eq_true rfl) (fun p e s m args below meth c A ad K G hr => v_X_insert K G hr fu v0 v1 w h)

-- FaultTreeDesk$Terms.addAll(IIJ)V
theorem d_X_addAll_0 : decode b_X_addAll 0 = .ok (.lload_n 3, 1) := by decide +kernel
theorem d_X_addAll_1 : decode b_X_addAll 1 = .ok (.lstore 5, 2) := by decide +kernel
theorem d_X_addAll_3 : decode b_X_addAll 3 = .ok (.iconst 0, 1) := by decide +kernel
theorem d_X_addAll_4 : decode b_X_addAll 4 = .ok (.istore 7, 2) := by decide +kernel
theorem d_X_addAll_6 : decode b_X_addAll 6 = .ok (.iload 7, 2) := by decide +kernel
theorem d_X_addAll_8 : decode b_X_addAll 8 = .ok (.bipush 64, 2) := by decide +kernel
theorem d_X_addAll_10 : decode b_X_addAll 10 = .ok (.if_icmp .ge 64, 3) := by decide +kernel
theorem d_X_addAll_13 : decode b_X_addAll 13 = .ok (.lload 5, 2) := by decide +kernel
theorem d_X_addAll_15 : decode b_X_addAll 15 = .ok (.lconst 0, 1) := by decide +kernel
theorem d_X_addAll_16 : decode b_X_addAll 16 = .ok (.lcmp, 1) := by decide +kernel
theorem d_X_addAll_17 : decode b_X_addAll 17 = .ok (.ifCond .eq 57, 3) := by decide +kernel
theorem d_X_addAll_20 : decode b_X_addAll 20 = .ok (.iload_n 2, 1) := by decide +kernel
theorem d_X_addAll_21 : decode b_X_addAll 21 = .ok (.lload 5, 2) := by decide +kernel
theorem d_X_addAll_23 : decode b_X_addAll 23 = .ok (.lload 5, 2) := by decide +kernel
theorem d_X_addAll_25 : decode b_X_addAll 25 = .ok (.lneg, 1) := by decide +kernel
theorem d_X_addAll_26 : decode b_X_addAll 26 = .ok (.land, 1) := by decide +kernel
theorem d_X_addAll_27 : decode b_X_addAll 27 = .ok (.lconst 1, 1) := by decide +kernel
theorem d_X_addAll_28 : decode b_X_addAll 28 = .ok (.lsub, 1) := by decide +kernel
theorem d_X_addAll_29 : decode b_X_addAll 29 = .ok (.invokestatic 83, 3) := by decide +kernel
theorem d_X_addAll_32 : decode b_X_addAll 32 = .ok (.iadd, 1) := by decide +kernel
theorem d_X_addAll_33 : decode b_X_addAll 33 = .ok (.istore 8, 2) := by decide +kernel
theorem d_X_addAll_35 : decode b_X_addAll 35 = .ok (.lload 5, 2) := by decide +kernel
theorem d_X_addAll_37 : decode b_X_addAll 37 = .ok (.lload 5, 2) := by decide +kernel
theorem d_X_addAll_39 : decode b_X_addAll 39 = .ok (.lconst 1, 1) := by decide +kernel
theorem d_X_addAll_40 : decode b_X_addAll 40 = .ok (.lsub, 1) := by decide +kernel
theorem d_X_addAll_41 : decode b_X_addAll 41 = .ok (.land, 1) := by decide +kernel
theorem d_X_addAll_42 : decode b_X_addAll 42 = .ok (.lstore 5, 2) := by decide +kernel
theorem d_X_addAll_44 : decode b_X_addAll 44 = .ok (.aload_n 0, 1) := by decide +kernel
theorem d_X_addAll_45 : decode b_X_addAll 45 = .ok (.iload_n 1, 1) := by decide +kernel
theorem d_X_addAll_46 : decode b_X_addAll 46 = .ok (.invokestatic 89, 3) := by decide +kernel
theorem d_X_addAll_49 : decode b_X_addAll 49 = .ok (.bipush 20, 2) := by decide +kernel
theorem d_X_addAll_51 : decode b_X_addAll 51 = .ok (.ishl, 1) := by decide +kernel
theorem d_X_addAll_52 : decode b_X_addAll 52 = .ok (.iload 8, 2) := by decide +kernel
theorem d_X_addAll_54 : decode b_X_addAll 54 = .ok (.bipush 10, 2) := by decide +kernel
theorem d_X_addAll_56 : decode b_X_addAll 56 = .ok (.ishl, 1) := by decide +kernel
theorem d_X_addAll_57 : decode b_X_addAll 57 = .ok (.ior, 1) := by decide +kernel
theorem d_X_addAll_58 : decode b_X_addAll 58 = .ok (.iload_n 1, 1) := by decide +kernel
theorem d_X_addAll_59 : decode b_X_addAll 59 = .ok (.iload 8, 2) := by decide +kernel
theorem d_X_addAll_61 : decode b_X_addAll 61 = .ok (.iconst (-1), 1) := by decide +kernel
theorem d_X_addAll_62 : decode b_X_addAll 62 = .ok (.ixor, 1) := by decide +kernel
theorem d_X_addAll_63 : decode b_X_addAll 63 = .ok (.iand, 1) := by decide +kernel
theorem d_X_addAll_64 : decode b_X_addAll 64 = .ok (.ior, 1) := by decide +kernel
theorem d_X_addAll_65 : decode b_X_addAll 65 = .ok (.invokevirtual 93, 3) := by decide +kernel
theorem d_X_addAll_68 : decode b_X_addAll 68 = .ok (.iinc 7 1, 3) := by decide +kernel
theorem d_X_addAll_71 : decode b_X_addAll 71 = .ok (.goto (-65), 3) := by decide +kernel
theorem d_X_addAll_74 : decode b_X_addAll 74 = .ok (.return_, 1) := by decide +kernel
def rm_X_addAll : Room := { frames := 1, cells := 0, slots := 0, locals := 22 }
def f_X_addAll_74 (fu : Nat) (w : List va_E) : Option (List va_E) := (some w)
def f_X_addAll_6 (fu : Nat) : Nat → Nat → Int32 → Int32 → Int64 → Int32 → List va_E → Option (List va_E)
  | 0, _, _, _, _, _, _ => none
  | n + 1, v0, v1, v2, v5, v7, w => (if (64 : Int32) ≤ v7 then (f_X_addAll_74 fu w) else (if (lg_cmp v5 (0 : Int64)) = 0 then (f_X_addAll_74 fu w) else ((f_JL_bitCount fu ((v5 &&& (-v5)) - (1 : Int64)) w).bind fun r1 => ((f_JI_bitCount fu v1 r1.2).bind fun r2 => ((hp_is r2.2 v0 4).bind fun _ => ((f_X_insert fu v0 (((r2.1 <<< ((20 : Int32) &&& 31)) ||| ((v2 + r1.1) <<< ((10 : Int32) &&& 31))) ||| (v1 &&& ((v2 + r1.1) ^^^ (-1 : Int32)))) r2.2).bind fun r3 => (f_X_addAll_6 fu n (v0) (v1) (v2) ((v5 &&& (v5 - (1 : Int64)))) ((v7 + (1 : Int32))) r3)))))))
def f_X_addAll (fu : Nat) (v0 : Nat) (v1 : Int32) (v2 : Int32) (v3 : Int64) (w : List va_E) : Option (List va_E) := (f_X_addAll_6 fu fu (v0) (v1) (v2) (v3) ((0 : Int32)) w)
section
variable {p : Program} {l : Launch} {e : Env} {s : State} {m : MethodId} {args : Array Value} {below : List Frame} {meth : Method} {c : Code} {D : va_G} {ca : Nat → Nat} {A : Nat → Prop} {ad : Nat → Nat}
set_option maxRecDepth 100000 in
set_option maxHeartbeats 4000000 in
theorem v_X_addAll_74 (K : av_K p s m args meth c D cl8 ca A b_X_addAll 9 R_X WS) (G : av_G NS tabON A s s.heap) (hr : meth.sig.returnType = none) (fu : Nat) {r : List va_E} (w : List va_E) (h : f_X_addAll_74 fu w = some r) : av_VV p l e rm_X_addAll s m args below meth c D cl8 A ad ca 9 r 74 [none, none, none, none, none, none, none, none, none] [] w := by
  unfold f_X_addAll_74 at h
  obtain rfl := Option.some.inj h
  exact av_return K hr d_X_addAll_74 rfl
set_option maxRecDepth 100000 in
set_option maxHeartbeats 4000000 in
theorem v_X_addAll_6 (K : av_K p s m args meth c D cl8 ca A b_X_addAll 9 R_X WS) (G : av_G NS tabON A s s.heap) (hr : meth.sig.returnType = none) (fu : Nat) {r : List va_E} : ∀ (n : Nat) (v0 : Nat) (v1 : Int32) (v2 : Int32) (v5 : Int64) (v7 : Int32) (w : List va_E), f_X_addAll_6 fu n v0 v1 v2 v5 v7 w = some r → av_VV p l e rm_X_addAll s m args below meth c D cl8 A ad ca 9 r 6 [some (.ref v0), some (.int v1), some (.int v2), none, none, some (.long v5), none, some (.int v7), none] [] w := by
  intro n
  induction n with
  | zero => intro _ _ _ _ _ _ h; cases h
  | succ n ih =>
    intro v0 v1 v2 v5 v7 w h
    unfold f_X_addAll_6 at h
    refine av_iload K d_X_addAll_6 rfl ?_
    refine av_bipush (v := (64 : Int32)) K d_X_addAll_8 (by decide) ?_
    refine av_icmp_ge (tgt := 74) K d_X_addAll_10 rfl (fun hc => ?_) (fun hc => ?_)
    · rw [if_pos hc] at h
      refine hv_fg (L' := [none, none, none, none, none, none, none, none, none]) [0, 1, 2, 5, 7] rfl ?_
      exact v_X_addAll_74 K G hr fu _ h
    · rw [if_neg hc] at h
      refine av_lload K d_X_addAll_13 rfl ?_
      refine av_lconst (v := (0 : Int64)) K d_X_addAll_15 (by decide) ?_
      refine av_lcmp K d_X_addAll_16 ?_
      refine av_if_eq (tgt := 74) K d_X_addAll_17 rfl (fun hc => ?_) (fun hc => ?_)
      · rw [if_pos hc] at h
        refine hv_fg (L' := [none, none, none, none, none, none, none, none, none]) [0, 1, 2, 5, 7] rfl ?_
        exact v_X_addAll_74 K G hr fu _ h
      · rw [if_neg hc] at h
        refine av_iload_n K d_X_addAll_20 rfl rfl ?_
        refine av_lload K d_X_addAll_21 rfl ?_
        refine av_lload K d_X_addAll_23 rfl ?_
        refine av_lneg K d_X_addAll_25 ?_
        refine av_land K d_X_addAll_26 ?_
        refine av_lconst (v := (1 : Int64)) K d_X_addAll_27 (by decide) ?_
        refine av_lsub K d_X_addAll_28 ?_
        obtain ⟨r1, er1, h⟩ := hp_bd h
        refine av_cSi K G (c_JL_bitCount (tab := tabON) er1) (va_cwS 1 K.2.2.2.2.1 (gSU ml_X_83 sm_JL_bitCount in_JL co_JL_bitCount) rfl rfl rfl ce_JL_bitCount ⟨Nat.le_of_ble_eq_true rfl, Nat.le_of_ble_eq_true rfl⟩) rfl rfl (Nat.le_of_ble_eq_true rfl) d_X_addAll_29 ⟨Nat.zero_le _, Nat.zero_le _⟩ (fun a9 u9 h9 => ?_)
        obtain ⟨rfl, rfl⟩ : a9 = r1.1 ∧ u9 = r1.2 := ⟨congrArg Prod.fst h9, congrArg Prod.snd h9⟩
        refine av_iadd K d_X_addAll_32 ?_
        refine av_istore (L' := [some (.ref v0), some (.int v1), some (.int v2), none, none, some (.long v5), none, some (.int v7), some (.int (v2 + r1.1))]) K d_X_addAll_33 (Nat.le_of_ble_eq_true rfl) rfl ?_
        refine av_lload K d_X_addAll_35 rfl ?_
        refine av_lload K d_X_addAll_37 rfl ?_
        refine av_lconst (v := (1 : Int64)) K d_X_addAll_39 (by decide) ?_
        refine av_lsub K d_X_addAll_40 ?_
        refine av_land K d_X_addAll_41 ?_
        refine av_lstore (L' := [some (.ref v0), some (.int v1), some (.int v2), none, none, some (.long (v5 &&& (v5 - (1 : Int64)))), none, some (.int v7), some (.int (v2 + r1.1))]) K d_X_addAll_42 (Nat.le_of_ble_eq_true rfl) rfl ?_
        refine av_aload_n K d_X_addAll_44 rfl rfl ?_
        refine av_iload_n K d_X_addAll_45 rfl rfl ?_
        obtain ⟨r2, er2, h⟩ := hp_bd h
        refine av_cSi K G (c_JI_bitCount (tab := tabON) er2) (va_cwS 1 K.2.2.2.2.1 (gSU ml_X_89 sm_JI_bitCount in_JI co_JI_bitCount) rfl rfl rfl ce_JI_bitCount ⟨Nat.le_of_ble_eq_true rfl, Nat.le_of_ble_eq_true rfl⟩) rfl rfl (Nat.le_of_ble_eq_true rfl) d_X_addAll_46 ⟨Nat.zero_le _, Nat.zero_le _⟩ (fun a9 u9 h9 => ?_)
        obtain ⟨rfl, rfl⟩ : a9 = r2.1 ∧ u9 = r2.2 := ⟨congrArg Prod.fst h9, congrArg Prod.snd h9⟩
        refine av_bipush (v := (20 : Int32)) K d_X_addAll_49 (by decide) ?_
        refine av_ishl K d_X_addAll_51 ?_
        refine av_iload K d_X_addAll_52 rfl ?_
        refine av_bipush (v := (10 : Int32)) K d_X_addAll_54 (by decide) ?_
        refine av_ishl K d_X_addAll_56 ?_
        refine av_ior K d_X_addAll_57 ?_
        refine av_iload_n K d_X_addAll_58 rfl rfl ?_
        refine av_iload K d_X_addAll_59 rfl ?_
        refine av_iconst (v := (-1 : Int32)) K d_X_addAll_61 (by decide) ?_
        refine av_ixor K d_X_addAll_62 ?_
        refine av_iand K d_X_addAll_63 ?_
        refine av_ior K d_X_addAll_64 ?_
        obtain ⟨_, eo65, h⟩ := hp_bd h
        obtain ⟨r3, er3, h⟩ := hp_bd h
        obtain ⟨fs65, ho65⟩ := hp_is_of eo65
        refine av_cVv K G (c_X_insert (tab := tabON) er3) (cwV 1 K.2.2.2.2.1 (gV ml_X_93 im_X_insert se_X_insert in_X co_X_insert) rfl rfl rfl cd_X_insert ⟨Nat.le_of_ble_eq_true rfl, Nat.le_of_ble_eq_true rfl⟩) rfl ho65 rfl rfl (Nat.le_of_ble_eq_true rfl) d_X_addAll_65 ⟨Nat.zero_le _, Nat.zero_le _⟩ (fun u9 h9 => ?_)
        subst h9
        refine av_iinc (v := (v7 + (1 : Int32))) (L' := [some (.ref v0), some (.int v1), some (.int v2), none, none, some (.long (v5 &&& (v5 - (1 : Int64)))), none, some (.int (v7 + (1 : Int32))), some (.int (v2 + r1.1))]) K d_X_addAll_68 rfl (congrArg (fun z => v7 + z) (show Int32.ofInt 1 = (1 : Int32) by decide)) (Nat.le_of_ble_eq_true rfl) rfl ?_
        refine av_goto (tgt := 6) K d_X_addAll_71 rfl ?_
        refine hv_fg (L' := [some (.ref v0), some (.int v1), some (.int v2), none, none, some (.long (v5 &&& (v5 - (1 : Int64)))), none, some (.int (v7 + (1 : Int32))), none]) [8] rfl ?_
        exact ih (v0) (v1) (v2) ((v5 &&& (v5 - (1 : Int64)))) ((v7 + (1 : Int32))) _ h
set_option maxRecDepth 100000 in
set_option maxHeartbeats 4000000 in
theorem v_X_addAll (K : av_K p s m args meth c D cl8 ca A b_X_addAll 9 R_X WS) (G : av_G NS tabON A s s.heap) (hr : meth.sig.returnType = none) (fu : Nat) {r : List va_E} (v0 : Nat) (v1 : Int32) (v2 : Int32) (v3 : Int64) (w : List va_E) (h : f_X_addAll fu v0 v1 v2 v3 w = some r) : av_VV p l e rm_X_addAll s m args below meth c D cl8 A ad ca 9 r 0 [some (.ref v0), some (.int v1), some (.int v2), some (.long v3), none, none, none, none, none] [] w := by
  unfold f_X_addAll at h
  refine av_lload_n K d_X_addAll_0 rfl rfl ?_
  refine av_lstore (L' := [some (.ref v0), some (.int v1), some (.int v2), some (.long v3), none, some (.long v3), none, none, none]) K d_X_addAll_1 (Nat.le_of_ble_eq_true rfl) rfl ?_
  refine av_iconst (v := (0 : Int32)) K d_X_addAll_3 (by decide) ?_
  refine av_istore (L' := [some (.ref v0), some (.int v1), some (.int v2), some (.long v3), none, some (.long v3), none, some (.int (0 : Int32)), none]) K d_X_addAll_4 (Nat.le_of_ble_eq_true rfl) rfl ?_
  refine hv_fg (L' := [some (.ref v0), some (.int v1), some (.int v2), none, none, some (.long v3), none, some (.int (0 : Int32)), none]) [3] rfl ?_
  exact v_X_addAll_6 K G hr fu fu (v0) (v1) (v2) (v3) ((0 : Int32)) _ h
end
set_option maxRecDepth 100000 in
theorem c_X_addAll {l : Launch} {D : va_G} {ca : Nat → Nat} {tab : Nat → Int64} {fu : Nat} {v0 : Nat} {v1 : Int32} {v2 : Int32} {v3 : Int64} {w : List va_E} {r : List va_E} (h : f_X_addAll fu v0 v1 v2 v3 w = some r) : av_Cv l D cl8 ca NS tabON y_X_addAll w_X_addAll rm_X_addAll [.ref v0, .int v1, .int v2, .long v3] w (fun u => u = r) :=
  av_inV (cc := b_X_addAll) (nL := 9) (by decide +kernel) rfl (Nat.le_of_ble_eq_true rfl) (fun p e s m args below meth c A ad K G hr => v_X_addAll K G hr fu v0 v1 v2 v3 w h)

-- FaultTreeDesk$Terms.collect(I)V
theorem d_X_collect_0 : decode b_X_collect 0 = .ok (.aload_n 0, 1) := by decide +kernel
theorem d_X_collect_1 : decode b_X_collect 1 = .ok (.iload_n 1, 1) := by decide +kernel
theorem d_X_collect_2 : decode b_X_collect 2 = .ok (.invokevirtual 69, 3) := by decide +kernel
theorem d_X_collect_5 : decode b_X_collect 5 = .ok (.lstore_n 2, 1) := by decide +kernel
theorem d_X_collect_6 : decode b_X_collect 6 = .ok (.iconst 0, 1) := by decide +kernel
theorem d_X_collect_7 : decode b_X_collect 7 = .ok (.istore 4, 2) := by decide +kernel
theorem d_X_collect_9 : decode b_X_collect 9 = .ok (.iload 4, 2) := by decide +kernel
theorem d_X_collect_11 : decode b_X_collect 11 = .ok (.aload_n 0, 1) := by decide +kernel
theorem d_X_collect_12 : decode b_X_collect 12 = .ok (.getfield 20, 3) := by decide +kernel
theorem d_X_collect_15 : decode b_X_collect 15 = .ok (.if_icmp .ge 40, 3) := by decide +kernel
theorem d_X_collect_18 : decode b_X_collect 18 = .ok (.iload 4, 2) := by decide +kernel
theorem d_X_collect_20 : decode b_X_collect 20 = .ok (.bipush 64, 2) := by decide +kernel
theorem d_X_collect_22 : decode b_X_collect 22 = .ok (.imul, 1) := by decide +kernel
theorem d_X_collect_23 : decode b_X_collect 23 = .ok (.iload_n 1, 1) := by decide +kernel
theorem d_X_collect_24 : decode b_X_collect 24 = .ok (.iconst (-1), 1) := by decide +kernel
theorem d_X_collect_25 : decode b_X_collect 25 = .ok (.ixor, 1) := by decide +kernel
theorem d_X_collect_26 : decode b_X_collect 26 = .ok (.iand, 1) := by decide +kernel
theorem d_X_collect_27 : decode b_X_collect 27 = .ok (.ifCond .ne 22, 3) := by decide +kernel
theorem d_X_collect_30 : decode b_X_collect 30 = .ok (.aload_n 0, 1) := by decide +kernel
theorem d_X_collect_31 : decode b_X_collect 31 = .ok (.iload_n 1, 1) := by decide +kernel
theorem d_X_collect_32 : decode b_X_collect 32 = .ok (.iload 4, 2) := by decide +kernel
theorem d_X_collect_34 : decode b_X_collect 34 = .ok (.bipush 64, 2) := by decide +kernel
theorem d_X_collect_36 : decode b_X_collect 36 = .ok (.imul, 1) := by decide +kernel
theorem d_X_collect_37 : decode b_X_collect 37 = .ok (.aload_n 0, 1) := by decide +kernel
theorem d_X_collect_38 : decode b_X_collect 38 = .ok (.iload_n 1, 1) := by decide +kernel
theorem d_X_collect_39 : decode b_X_collect 39 = .ok (.iload 4, 2) := by decide +kernel
theorem d_X_collect_41 : decode b_X_collect 41 = .ok (.invokevirtual 73, 3) := by decide +kernel
theorem d_X_collect_44 : decode b_X_collect 44 = .ok (.lload_n 2, 1) := by decide +kernel
theorem d_X_collect_45 : decode b_X_collect 45 = .ok (.land, 1) := by decide +kernel
theorem d_X_collect_46 : decode b_X_collect 46 = .ok (.invokevirtual 77, 3) := by decide +kernel
theorem d_X_collect_49 : decode b_X_collect 49 = .ok (.iinc 4 1, 3) := by decide +kernel
theorem d_X_collect_52 : decode b_X_collect 52 = .ok (.goto (-43), 3) := by decide +kernel
theorem d_X_collect_55 : decode b_X_collect 55 = .ok (.return_, 1) := by decide +kernel
def rm_X_collect : Room := { frames := 2, cells := 0, slots := 0, locals := 51 }
def f_X_collect_49 (fu : Nat) (k9 : Nat → Int32 → Int64 → Int32 → List va_E → Option (List va_E)) (v0 : Nat) (v1 : Int32) (v2 : Int64) (v4 : Int32) (w : List va_E) : Option (List va_E) := (k9 (v0) (v1) (v2) ((v4 + (1 : Int32))) w)
def f_X_collect_9 (fu : Nat) : Nat → Nat → Int32 → Int64 → Int32 → List va_E → Option (List va_E)
  | 0, _, _, _, _, _ => none
  | n + 1, v0, v1, v2, v4, w => ((hp_gi w v0 4 2).bind fun x1 => (if x1 ≤ v4 then (some w) else (if ((v4 * (64 : Int32)) &&& (v1 ^^^ (-1 : Int32))) = 0 then ((hp_is w v0 4).bind fun _ => ((f_X_primeSettings fu v0 v1 v4 w).bind fun r2 => ((hp_is r2.2 v0 4).bind fun _ => ((f_X_addAll fu v0 v1 (v4 * (64 : Int32)) (r2.1 &&& v2) r2.2).bind fun r3 => (f_X_collect_49 fu (f_X_collect_9 fu n) (v0) (v1) (v2) (v4) r3))))) else (f_X_collect_49 fu (f_X_collect_9 fu n) (v0) (v1) (v2) (v4) w))))
def f_X_collect (fu : Nat) (v0 : Nat) (v1 : Int32) (w : List va_E) : Option (List va_E) := ((hp_is w v0 4).bind fun _ => ((f_X_allKeptOrOff fu v0 v1 w).bind fun r1 => (f_X_collect_9 fu fu (v0) (v1) (r1.1) ((0 : Int32)) r1.2)))
section
variable {p : Program} {l : Launch} {e : Env} {s : State} {m : MethodId} {args : Array Value} {below : List Frame} {meth : Method} {c : Code} {D : va_G} {ca : Nat → Nat} {A : Nat → Prop} {ad : Nat → Nat}
set_option maxRecDepth 100000 in
set_option maxHeartbeats 4000000 in
theorem v_X_collect_49 (K : av_K p s m args meth c D cl8 ca A b_X_collect 5 R_X WS) (G : av_G NS tabON A s s.heap) (hr : meth.sig.returnType = none) (fu : Nat) {r : List va_E} (k9 : Nat → Int32 → Int64 → Int32 → List va_E → Option (List va_E)) (hk9 : ∀ (v0 : Nat) (v1 : Int32) (v2 : Int64) (v4 : Int32) (w : List va_E), k9 v0 v1 v2 v4 w = some r → av_VV p l e rm_X_collect s m args below meth c D cl8 A ad ca 5 r 9 [some (.ref v0), some (.int v1), some (.long v2), none, some (.int v4)] [] w) (v0 : Nat) (v1 : Int32) (v2 : Int64) (v4 : Int32) (w : List va_E) (h : f_X_collect_49 fu k9 v0 v1 v2 v4 w = some r) : av_VV p l e rm_X_collect s m args below meth c D cl8 A ad ca 5 r 49 [some (.ref v0), some (.int v1), some (.long v2), none, some (.int v4)] [] w := by
  unfold f_X_collect_49 at h
  refine av_iinc (v := (v4 + (1 : Int32))) (L' := [some (.ref v0), some (.int v1), some (.long v2), none, some (.int (v4 + (1 : Int32)))]) K d_X_collect_49 rfl (congrArg (fun z => v4 + z) (show Int32.ofInt 1 = (1 : Int32) by decide)) (Nat.le_of_ble_eq_true rfl) rfl ?_
  refine av_goto (tgt := 9) K d_X_collect_52 rfl ?_
  exact hk9 (v0) (v1) (v2) ((v4 + (1 : Int32))) _ h
set_option maxRecDepth 100000 in
set_option maxHeartbeats 4000000 in
theorem v_X_collect_9 (K : av_K p s m args meth c D cl8 ca A b_X_collect 5 R_X WS) (G : av_G NS tabON A s s.heap) (hr : meth.sig.returnType = none) (fu : Nat) {r : List va_E} : ∀ (n : Nat) (v0 : Nat) (v1 : Int32) (v2 : Int64) (v4 : Int32) (w : List va_E), f_X_collect_9 fu n v0 v1 v2 v4 w = some r → av_VV p l e rm_X_collect s m args below meth c D cl8 A ad ca 5 r 9 [some (.ref v0), some (.int v1), some (.long v2), none, some (.int v4)] [] w := by
  intro n
  induction n with
  | zero => intro _ _ _ _ _ h; cases h
  | succ n ih =>
    intro v0 v1 v2 v4 w h
    unfold f_X_collect_9 at h
    refine av_iload K d_X_collect_9 rfl ?_
    refine av_aload_n K d_X_collect_11 rfl rfl ?_
    obtain ⟨x1, ex1, h⟩ := hp_bd h
    refine hv_gi K fl_X_20 d_X_collect_12 ex1 ?_
    refine av_icmp_ge (tgt := 55) K d_X_collect_15 rfl (fun hc => ?_) (fun hc => ?_)
    · rw [if_pos hc] at h
      obtain rfl := Option.some.inj h
      exact av_return K hr d_X_collect_55 rfl
    · rw [if_neg hc] at h
      refine av_iload K d_X_collect_18 rfl ?_
      refine av_bipush (v := (64 : Int32)) K d_X_collect_20 (by decide) ?_
      refine av_imul K d_X_collect_22 ?_
      refine av_iload_n K d_X_collect_23 rfl rfl ?_
      refine av_iconst (v := (-1 : Int32)) K d_X_collect_24 (by decide) ?_
      refine av_ixor K d_X_collect_25 ?_
      refine av_iand K d_X_collect_26 ?_
      refine av_if_ne (tgt := 49) K d_X_collect_27 rfl (fun hc => ?_) (fun hc => ?_)
      · rw [if_neg hc] at h
        exact v_X_collect_49 K G hr fu (f_X_collect_9 fu n) ih (v0) (v1) (v2) (v4) _ h
      · rw [if_pos hc] at h
        refine av_aload_n K d_X_collect_30 rfl rfl ?_
        refine av_iload_n K d_X_collect_31 rfl rfl ?_
        refine av_iload K d_X_collect_32 rfl ?_
        refine av_bipush (v := (64 : Int32)) K d_X_collect_34 (by decide) ?_
        refine av_imul K d_X_collect_36 ?_
        refine av_aload_n K d_X_collect_37 rfl rfl ?_
        refine av_iload_n K d_X_collect_38 rfl rfl ?_
        refine av_iload K d_X_collect_39 rfl ?_
        obtain ⟨_, eo41, h⟩ := hp_bd h
        obtain ⟨r2, er2, h⟩ := hp_bd h
        obtain ⟨fs41, ho41⟩ := hp_is_of eo41
        refine av_cVl K G (c_X_primeSettings (tab := tabON) er2) (cwV 2 K.2.2.2.2.1 (gV ml_X_73 im_X_primeSettings se_X_primeSettings in_X co_X_primeSettings) rfl rfl rfl cd_X_primeSettings ⟨Nat.le_of_ble_eq_true rfl, Nat.le_of_ble_eq_true rfl⟩) rfl ho41 rfl rfl (Nat.le_of_ble_eq_true rfl) d_X_collect_41 ⟨Nat.zero_le _, Nat.zero_le _⟩ (fun a9 u9 h9 => ?_)
        obtain ⟨rfl, rfl⟩ : a9 = r2.1 ∧ u9 = r2.2 := ⟨congrArg Prod.fst h9, congrArg Prod.snd h9⟩
        refine av_lload_n K d_X_collect_44 rfl rfl ?_
        refine av_land K d_X_collect_45 ?_
        obtain ⟨_, eo46, h⟩ := hp_bd h
        obtain ⟨r3, er3, h⟩ := hp_bd h
        obtain ⟨fs46, ho46⟩ := hp_is_of eo46
        refine av_cVv K G (c_X_addAll (tab := tabON) er3) (cwV 3 K.2.2.2.2.1 (gV ml_X_77 im_X_addAll se_X_addAll in_X co_X_addAll) rfl rfl rfl cd_X_addAll ⟨Nat.le_of_ble_eq_true rfl, Nat.le_of_ble_eq_true rfl⟩) rfl ho46 rfl rfl (Nat.le_of_ble_eq_true rfl) d_X_collect_46 ⟨Nat.zero_le _, Nat.zero_le _⟩ (fun u9 h9 => ?_)
        subst h9
        exact v_X_collect_49 K G hr fu (f_X_collect_9 fu n) ih (v0) (v1) (v2) (v4) _ h
set_option maxRecDepth 100000 in
set_option maxHeartbeats 4000000 in
theorem v_X_collect (K : av_K p s m args meth c D cl8 ca A b_X_collect 5 R_X WS) (G : av_G NS tabON A s s.heap) (hr : meth.sig.returnType = none) (fu : Nat) {r : List va_E} (v0 : Nat) (v1 : Int32) (w : List va_E) (h : f_X_collect fu v0 v1 w = some r) : av_VV p l e rm_X_collect s m args below meth c D cl8 A ad ca 5 r 0 [some (.ref v0), some (.int v1), none, none, none] [] w := by
  unfold f_X_collect at h
  refine av_aload_n K d_X_collect_0 rfl rfl ?_
  refine av_iload_n K d_X_collect_1 rfl rfl ?_
  obtain ⟨_, eo2, h⟩ := hp_bd h
  obtain ⟨r1, er1, h⟩ := hp_bd h
  obtain ⟨fs2, ho2⟩ := hp_is_of eo2
  refine av_cVl K G (c_X_allKeptOrOff (tab := tabON) er1) (cwV 1 K.2.2.2.2.1 (gV ml_X_69 im_X_allKeptOrOff se_X_allKeptOrOff in_X co_X_allKeptOrOff) rfl rfl rfl cd_X_allKeptOrOff ⟨Nat.le_of_ble_eq_true rfl, Nat.le_of_ble_eq_true rfl⟩) rfl ho2 rfl rfl (Nat.le_of_ble_eq_true rfl) d_X_collect_2 ⟨Nat.zero_le _, Nat.zero_le _⟩ (fun a9 u9 h9 => ?_)
  obtain ⟨rfl, rfl⟩ : a9 = r1.1 ∧ u9 = r1.2 := ⟨congrArg Prod.fst h9, congrArg Prod.snd h9⟩
  refine av_lstore_n (L' := [some (.ref v0), some (.int v1), some (.long r1.1), none, none]) K d_X_collect_5 rfl (Nat.le_of_ble_eq_true rfl) rfl ?_
  refine av_iconst (v := (0 : Int32)) K d_X_collect_6 (by decide) ?_
  refine av_istore (L' := [some (.ref v0), some (.int v1), some (.long r1.1), none, some (.int (0 : Int32))]) K d_X_collect_7 (Nat.le_of_ble_eq_true rfl) rfl ?_
  exact v_X_collect_9 K G hr fu fu (v0) (v1) (r1.1) ((0 : Int32)) _ h
end
set_option maxRecDepth 100000 in
theorem c_X_collect {l : Launch} {D : va_G} {ca : Nat → Nat} {tab : Nat → Int64} {fu : Nat} {v0 : Nat} {v1 : Int32} {w : List va_E} {r : List va_E} (h : f_X_collect fu v0 v1 w = some r) : av_Cv l D cl8 ca NS tabON y_X_collect w_X_collect rm_X_collect [.ref v0, .int v1] w (fun u => u = r) :=
  av_inV (cc := b_X_collect) (nL := 5) (by decide +kernel) rfl (Nat.le_of_ble_eq_true rfl) (fun p e s m args below meth c A ad K G hr => v_X_collect K G hr fu v0 v1 w h)

-- FaultTreeDesk$Terms.walk(II)V
theorem d_X_walk_0 : decode b_X_walk 0 = .ok (.aload_n 0, 1) := by decide +kernel
theorem d_X_walk_1 : decode b_X_walk 1 = .ok (.getfield 27, 3) := by decide +kernel
theorem d_X_walk_4 : decode b_X_walk 4 = .ok (.ifCond .ne 7, 3) := by decide +kernel
theorem d_X_walk_7 : decode b_X_walk 7 = .ok (.iload_n 1, 1) := by decide +kernel
theorem d_X_walk_8 : decode b_X_walk 8 = .ok (.ifCond .ge 4, 3) := by decide +kernel
theorem d_X_walk_11 : decode b_X_walk 11 = .ok (.return_, 1) := by decide +kernel
theorem d_X_walk_12 : decode b_X_walk 12 = .ok (.iload_n 1, 1) := by decide +kernel
theorem d_X_walk_13 : decode b_X_walk 13 = .ok (.ifCond .ne 9, 3) := by decide +kernel
theorem d_X_walk_16 : decode b_X_walk 16 = .ok (.aload_n 0, 1) := by decide +kernel
theorem d_X_walk_17 : decode b_X_walk 17 = .ok (.iload_n 2, 1) := by decide +kernel
theorem d_X_walk_18 : decode b_X_walk 18 = .ok (.invokevirtual 51, 3) := by decide +kernel
theorem d_X_walk_21 : decode b_X_walk 21 = .ok (.return_, 1) := by decide +kernel
theorem d_X_walk_22 : decode b_X_walk 22 = .ok (.iload_n 1, 1) := by decide +kernel
theorem d_X_walk_23 : decode b_X_walk 23 = .ok (.iconst 1, 1) := by decide +kernel
theorem d_X_walk_24 : decode b_X_walk 24 = .ok (.isub, 1) := by decide +kernel
theorem d_X_walk_25 : decode b_X_walk 25 = .ok (.istore_n 3, 1) := by decide +kernel
theorem d_X_walk_26 : decode b_X_walk 26 = .ok (.lconst 0, 1) := by decide +kernel
theorem d_X_walk_27 : decode b_X_walk 27 = .ok (.lstore 4, 2) := by decide +kernel
theorem d_X_walk_29 : decode b_X_walk 29 = .ok (.lconst 0, 1) := by decide +kernel
theorem d_X_walk_30 : decode b_X_walk 30 = .ok (.lstore 6, 2) := by decide +kernel
theorem d_X_walk_32 : decode b_X_walk 32 = .ok (.iconst 0, 1) := by decide +kernel
theorem d_X_walk_33 : decode b_X_walk 33 = .ok (.istore 8, 2) := by decide +kernel
theorem d_X_walk_35 : decode b_X_walk 35 = .ok (.iload 8, 2) := by decide +kernel
theorem d_X_walk_37 : decode b_X_walk 37 = .ok (.aload_n 0, 1) := by decide +kernel
theorem d_X_walk_38 : decode b_X_walk 38 = .ok (.getfield 20, 3) := by decide +kernel
theorem d_X_walk_41 : decode b_X_walk 41 = .ok (.if_icmp .ge 69, 3) := by decide +kernel
theorem d_X_walk_44 : decode b_X_walk 44 = .ok (.aload_n 0, 1) := by decide +kernel
theorem d_X_walk_45 : decode b_X_walk 45 = .ok (.getfield 17, 3) := by decide +kernel
theorem d_X_walk_48 : decode b_X_walk 48 = .ok (.iload_n 1, 1) := by decide +kernel
theorem d_X_walk_49 : decode b_X_walk 49 = .ok (.aaload, 1) := by decide +kernel
theorem d_X_walk_50 : decode b_X_walk 50 = .ok (.iload 8, 2) := by decide +kernel
theorem d_X_walk_52 : decode b_X_walk 52 = .ok (.laload, 1) := by decide +kernel
theorem d_X_walk_53 : decode b_X_walk 53 = .ok (.aload_n 0, 1) := by decide +kernel
theorem d_X_walk_54 : decode b_X_walk 54 = .ok (.aload_n 0, 1) := by decide +kernel
theorem d_X_walk_55 : decode b_X_walk 55 = .ok (.getfield 17, 3) := by decide +kernel
theorem d_X_walk_58 : decode b_X_walk 58 = .ok (.iload_n 1, 1) := by decide +kernel
theorem d_X_walk_59 : decode b_X_walk 59 = .ok (.aaload, 1) := by decide +kernel
theorem d_X_walk_60 : decode b_X_walk 60 = .ok (.iload 8, 2) := by decide +kernel
theorem d_X_walk_62 : decode b_X_walk 62 = .ok (.iload_n 3, 1) := by decide +kernel
theorem d_X_walk_63 : decode b_X_walk 63 = .ok (.invokevirtual 55, 3) := by decide +kernel
theorem d_X_walk_66 : decode b_X_walk 66 = .ok (.land, 1) := by decide +kernel
theorem d_X_walk_67 : decode b_X_walk 67 = .ok (.lstore 9, 2) := by decide +kernel
theorem d_X_walk_69 : decode b_X_walk 69 = .ok (.aload_n 0, 1) := by decide +kernel
theorem d_X_walk_70 : decode b_X_walk 70 = .ok (.getfield 17, 3) := by decide +kernel
theorem d_X_walk_73 : decode b_X_walk 73 = .ok (.iload_n 3, 1) := by decide +kernel
theorem d_X_walk_74 : decode b_X_walk 74 = .ok (.aaload, 1) := by decide +kernel
theorem d_X_walk_75 : decode b_X_walk 75 = .ok (.iload 8, 2) := by decide +kernel
theorem d_X_walk_77 : decode b_X_walk 77 = .ok (.lload 9, 2) := by decide +kernel
theorem d_X_walk_79 : decode b_X_walk 79 = .ok (.lastore, 1) := by decide +kernel
theorem d_X_walk_80 : decode b_X_walk 80 = .ok (.lload 4, 2) := by decide +kernel
theorem d_X_walk_82 : decode b_X_walk 82 = .ok (.lload 9, 2) := by decide +kernel
theorem d_X_walk_84 : decode b_X_walk 84 = .ok (.lor, 1) := by decide +kernel
theorem d_X_walk_85 : decode b_X_walk 85 = .ok (.lstore 4, 2) := by decide +kernel
theorem d_X_walk_87 : decode b_X_walk 87 = .ok (.lload 6, 2) := by decide +kernel
theorem d_X_walk_89 : decode b_X_walk 89 = .ok (.aload_n 0, 1) := by decide +kernel
theorem d_X_walk_90 : decode b_X_walk 90 = .ok (.getfield 17, 3) := by decide +kernel
theorem d_X_walk_93 : decode b_X_walk 93 = .ok (.iload_n 1, 1) := by decide +kernel
theorem d_X_walk_94 : decode b_X_walk 94 = .ok (.aaload, 1) := by decide +kernel
theorem d_X_walk_95 : decode b_X_walk 95 = .ok (.iload 8, 2) := by decide +kernel
theorem d_X_walk_97 : decode b_X_walk 97 = .ok (.laload, 1) := by decide +kernel
theorem d_X_walk_98 : decode b_X_walk 98 = .ok (.lload 9, 2) := by decide +kernel
theorem d_X_walk_100 : decode b_X_walk 100 = .ok (.lxor, 1) := by decide +kernel
theorem d_X_walk_101 : decode b_X_walk 101 = .ok (.lor, 1) := by decide +kernel
theorem d_X_walk_102 : decode b_X_walk 102 = .ok (.lstore 6, 2) := by decide +kernel
theorem d_X_walk_104 : decode b_X_walk 104 = .ok (.iinc 8 1, 3) := by decide +kernel
theorem d_X_walk_107 : decode b_X_walk 107 = .ok (.goto (-72), 3) := by decide +kernel
theorem d_X_walk_110 : decode b_X_walk 110 = .ok (.lload 4, 2) := by decide +kernel
theorem d_X_walk_112 : decode b_X_walk 112 = .ok (.lconst 0, 1) := by decide +kernel
theorem d_X_walk_113 : decode b_X_walk 113 = .ok (.lcmp, 1) := by decide +kernel
theorem d_X_walk_114 : decode b_X_walk 114 = .ok (.ifCond .eq 9, 3) := by decide +kernel
theorem d_X_walk_117 : decode b_X_walk 117 = .ok (.aload_n 0, 1) := by decide +kernel
theorem d_X_walk_118 : decode b_X_walk 118 = .ok (.iload_n 3, 1) := by decide +kernel
theorem d_X_walk_119 : decode b_X_walk 119 = .ok (.iload_n 2, 1) := by decide +kernel
theorem d_X_walk_120 : decode b_X_walk 120 = .ok (.invokevirtual 40, 3) := by decide +kernel
theorem d_X_walk_123 : decode b_X_walk 123 = .ok (.lload 6, 2) := by decide +kernel
theorem d_X_walk_125 : decode b_X_walk 125 = .ok (.lconst 0, 1) := by decide +kernel
theorem d_X_walk_126 : decode b_X_walk 126 = .ok (.lcmp, 1) := by decide +kernel
theorem d_X_walk_127 : decode b_X_walk 127 = .ok (.ifCond .eq 34, 3) := by decide +kernel
theorem d_X_walk_130 : decode b_X_walk 130 = .ok (.aload_n 0, 1) := by decide +kernel
theorem d_X_walk_131 : decode b_X_walk 131 = .ok (.getfield 17, 3) := by decide +kernel
theorem d_X_walk_134 : decode b_X_walk 134 = .ok (.iload_n 1, 1) := by decide +kernel
theorem d_X_walk_135 : decode b_X_walk 135 = .ok (.aaload, 1) := by decide +kernel
theorem d_X_walk_136 : decode b_X_walk 136 = .ok (.iconst 0, 1) := by decide +kernel
theorem d_X_walk_137 : decode b_X_walk 137 = .ok (.aload_n 0, 1) := by decide +kernel
theorem d_X_walk_138 : decode b_X_walk 138 = .ok (.getfield 17, 3) := by decide +kernel
theorem d_X_walk_141 : decode b_X_walk 141 = .ok (.iload_n 3, 1) := by decide +kernel
theorem d_X_walk_142 : decode b_X_walk 142 = .ok (.aaload, 1) := by decide +kernel
theorem d_X_walk_143 : decode b_X_walk 143 = .ok (.iconst 0, 1) := by decide +kernel
theorem d_X_walk_144 : decode b_X_walk 144 = .ok (.aload_n 0, 1) := by decide +kernel
theorem d_X_walk_145 : decode b_X_walk 145 = .ok (.getfield 20, 3) := by decide +kernel
theorem d_X_walk_148 : decode b_X_walk 148 = .ok (.invokestatic 59, 3) := by decide +kernel
theorem d_X_walk_151 : decode b_X_walk 151 = .ok (.aload_n 0, 1) := by decide +kernel
theorem d_X_walk_152 : decode b_X_walk 152 = .ok (.iload_n 3, 1) := by decide +kernel
theorem d_X_walk_153 : decode b_X_walk 153 = .ok (.iload_n 2, 1) := by decide +kernel
theorem d_X_walk_154 : decode b_X_walk 154 = .ok (.iconst 1, 1) := by decide +kernel
theorem d_X_walk_155 : decode b_X_walk 155 = .ok (.iload_n 3, 1) := by decide +kernel
theorem d_X_walk_156 : decode b_X_walk 156 = .ok (.ishl, 1) := by decide +kernel
theorem d_X_walk_157 : decode b_X_walk 157 = .ok (.ior, 1) := by decide +kernel
theorem d_X_walk_158 : decode b_X_walk 158 = .ok (.invokevirtual 40, 3) := by decide +kernel
theorem d_X_walk_161 : decode b_X_walk 161 = .ok (.return_, 1) := by decide +kernel
def rm_X_walk (d : Nat) : Room := { frames := d + 5, cells := 0, slots := 0, locals := 40 * d + 300 }
def f_X_walk_161 (fu : Nat) (sw : Nat → Int32 → Int32 → List va_E → Option (List va_E)) (w : List va_E) : Option (List va_E) := (some w)
def f_X_walk_123 (fu : Nat) (sw : Nat → Int32 → Int32 → List va_E → Option (List va_E)) (v0 : Nat) (v1 : Int32) (v2 : Int32) (v3 : Int32) (v6 : Int64) (w : List va_E) : Option (List va_E) := (if (lg_cmp v6 (0 : Int64)) = 0 then (f_X_walk_161 fu sw w) else ((hp_gr w v0 4 1).bind fun q1 => ((hp_ra w q1 v1).bind fun q2 => ((hp_gr w v0 4 1).bind fun q3 => ((hp_ra w q3 v3).bind fun q4 => ((hp_gi w v0 4 2).bind fun x5 => ((hp_cp w q2 (0 : Int32) q4 (0 : Int32) x5).bind fun w6 => ((hp_is w6 v0 4).bind fun _ => ((sw v0 v3 (v2 ||| ((1 : Int32) <<< (v3 &&& 31))) w6).bind fun r7 => (f_X_walk_161 fu sw r7))))))))))
def f_X_walk_35 (fu : Nat) (sw : Nat → Int32 → Int32 → List va_E → Option (List va_E)) : Nat → Nat → Int32 → Int32 → Int32 → Int64 → Int64 → Int32 → List va_E → Option (List va_E)
  | 0, _, _, _, _, _, _, _, _ => none
  | n + 1, v0, v1, v2, v3, v4, v6, v8, w => ((hp_gi w v0 4 2).bind fun x1 => (if x1 ≤ v8 then (if (lg_cmp v4 (0 : Int64)) = 0 then (f_X_walk_123 fu sw (v0) (v1) (v2) (v3) (v6) w) else ((hp_is w v0 4).bind fun _ => ((sw v0 v3 v2 w).bind fun r2 => (f_X_walk_123 fu sw (v0) (v1) (v2) (v3) (v6) r2)))) else ((hp_gr w v0 4 1).bind fun q3 => ((hp_ra w q3 v1).bind fun q4 => ((hp_rl w q4 v8).bind fun y5 => ((hp_gr w v0 4 1).bind fun q6 => ((hp_ra w q6 v1).bind fun q7 => ((hp_is w v0 4).bind fun _ => ((f_X_flipped fu v0 q7 v8 v3 w).bind fun r8 => ((hp_gr r8.2 v0 4 1).bind fun q9 => ((hp_ra r8.2 q9 v3).bind fun q10 => ((hp_wl r8.2 q10 v8 (y5 &&& r8.1)).bind fun w11 => ((hp_gr w11 v0 4 1).bind fun q12 => ((hp_ra w11 q12 v1).bind fun q13 => ((hp_rl w11 q13 v8).bind fun y14 => (f_X_walk_35 fu sw n (v0) (v1) (v2) (v3) ((v4 ||| (y5 &&& r8.1))) ((v6 ||| (y14 ^^^ (y5 &&& r8.1)))) ((v8 + (1 : Int32))) w11))))))))))))))))
def f_X_walk_11 (fu : Nat) (sw : Nat → Int32 → Int32 → List va_E → Option (List va_E)) (w : List va_E) : Option (List va_E) := (some w)
def f_X_walk_b (fu : Nat) (sw : Nat → Int32 → Int32 → List va_E → Option (List va_E)) (v0 : Nat) (v1 : Int32) (v2 : Int32) (w : List va_E) : Option (List va_E) := ((hp_gi w v0 4 4).bind fun x1 => (if x1 = 0 then (if 0 ≤ v1 then (if v1 = 0 then ((hp_is w v0 4).bind fun _ => ((f_X_collect fu v0 v2 w).bind fun r2 => (some r2))) else (f_X_walk_35 fu sw fu (v0) (v1) (v2) ((v1 - (1 : Int32))) ((0 : Int64)) ((0 : Int64)) ((0 : Int32)) w)) else (f_X_walk_11 fu sw w)) else (f_X_walk_11 fu sw w)))
section
variable {p : Program} {l : Launch} {e : Env} {s : State} {m : MethodId} {args : Array Value} {below : List Frame} {meth : Method} {c : Code} {D : va_G} {ca : Nat → Nat} {A : Nat → Prop} {ad : Nat → Nat}
set_option maxRecDepth 100000 in
set_option maxHeartbeats 4000000 in
theorem v_X_walk_161 (K : av_K p s m args meth c D cl8 ca A b_X_walk 11 R_X WS) (G : av_G NS tabON A s s.heap) (hr : meth.sig.returnType = none) {d : Nat} (fu : Nat) {r : List va_E} (sw : Nat → Int32 → Int32 → List va_E → Option (List va_E)) (hsw : ∀ (v0 : Nat) (v1 v2 : Int32) (w u : List va_E), sw v0 v1 v2 w = some u → av_Cv l D cl8 ca NS tabON y_X_walk w_X_walk (rm_X_walk d) [.ref v0, .int v1, .int v2] w (fun x => x = u)) (w : List va_E) (h : f_X_walk_161 fu sw w = some r) : av_VV p l e (rm_X_walk (d + 1)) s m args below meth c D cl8 A ad ca 11 r 161 [none, none, none, none, none, none, none, none, none, none, none] [] w := by
  unfold f_X_walk_161 at h
  obtain rfl := Option.some.inj h
  exact av_return K hr d_X_walk_161 rfl
set_option maxRecDepth 100000 in
set_option maxHeartbeats 4000000 in
theorem v_X_walk_123 (K : av_K p s m args meth c D cl8 ca A b_X_walk 11 R_X WS) (G : av_G NS tabON A s s.heap) (hr : meth.sig.returnType = none) {d : Nat} (fu : Nat) {r : List va_E} (sw : Nat → Int32 → Int32 → List va_E → Option (List va_E)) (hsw : ∀ (v0 : Nat) (v1 v2 : Int32) (w u : List va_E), sw v0 v1 v2 w = some u → av_Cv l D cl8 ca NS tabON y_X_walk w_X_walk (rm_X_walk d) [.ref v0, .int v1, .int v2] w (fun x => x = u)) (v0 : Nat) (v1 : Int32) (v2 : Int32) (v3 : Int32) (v6 : Int64) (w : List va_E) (h : f_X_walk_123 fu sw v0 v1 v2 v3 v6 w = some r) : av_VV p l e (rm_X_walk (d + 1)) s m args below meth c D cl8 A ad ca 11 r 123 [some (.ref v0), some (.int v1), some (.int v2), some (.int v3), none, none, some (.long v6), none, none, none, none] [] w := by
  unfold f_X_walk_123 at h
  refine av_lload K d_X_walk_123 rfl ?_
  refine av_lconst (v := (0 : Int64)) K d_X_walk_125 (by decide) ?_
  refine av_lcmp K d_X_walk_126 ?_
  refine av_if_eq (tgt := 161) K d_X_walk_127 rfl (fun hc => ?_) (fun hc => ?_)
  · rw [if_pos hc] at h
    refine hv_fg (L' := [none, none, none, none, none, none, none, none, none, none, none]) [0, 1, 2, 3, 6] rfl ?_
    exact v_X_walk_161 K G hr fu sw hsw _ h
  · rw [if_neg hc] at h
    refine av_aload_n K d_X_walk_130 rfl rfl ?_
    obtain ⟨q1, eq1, h⟩ := hp_bd h
    refine hv_gr K fl_X_17 d_X_walk_131 eq1 ?_
    refine av_iload_n K d_X_walk_134 rfl rfl ?_
    obtain ⟨q2, eq2, h⟩ := hp_bd h
    refine hv_ra K d_X_walk_135 eq2 ?_
    refine av_iconst (v := (0 : Int32)) K d_X_walk_136 (by decide) ?_
    refine av_aload_n K d_X_walk_137 rfl rfl ?_
    obtain ⟨q3, eq3, h⟩ := hp_bd h
    refine hv_gr K fl_X_17 d_X_walk_138 eq3 ?_
    refine av_iload_n K d_X_walk_141 rfl rfl ?_
    obtain ⟨q4, eq4, h⟩ := hp_bd h
    refine hv_ra K d_X_walk_142 eq4 ?_
    refine av_iconst (v := (0 : Int32)) K d_X_walk_143 (by decide) ?_
    refine av_aload_n K d_X_walk_144 rfl rfl ?_
    obtain ⟨x5, ex5, h⟩ := hp_bd h
    refine hv_gi K fl_X_20 d_X_walk_145 ex5 ?_
    obtain ⟨w6, ew6, h⟩ := hp_bd h
    refine av_cp K ml_cp nm_cp sm_cp in_SY (by simp only [rm_X_walk]; omega) (Nat.le_trans (Nat.le_of_ble_eq_true rfl : _ ≤ 300) (by simp only [rm_X_walk]; omega)) d_X_walk_148 ew6 ?_
    refine av_aload_n K d_X_walk_151 rfl rfl ?_
    refine av_iload_n K d_X_walk_152 rfl rfl ?_
    refine av_iload_n K d_X_walk_153 rfl rfl ?_
    refine av_iconst (v := (1 : Int32)) K d_X_walk_154 (by decide) ?_
    refine av_iload_n K d_X_walk_155 rfl rfl ?_
    refine av_ishl K d_X_walk_156 ?_
    refine av_ior K d_X_walk_157 ?_
    obtain ⟨_, eo158, h⟩ := hp_bd h
    obtain ⟨r7, er7, h⟩ := hp_bd h
    obtain ⟨fs158, ho158⟩ := hp_is_of eo158
    refine av_cVv K G (hsw _ _ _ _ _ er7) (cwV 2 K.2.2.2.2.1 (gV ml_X_40 im_X_walk se_X_walk in_X co_X_walk) rfl rfl rfl cd_X_walk ⟨by simp only [rm_X_walk, rm_X_walk]; omega, by simp only [rm_X_walk, rm_X_walk]; omega⟩) rfl ho158 rfl rfl (Nat.le_of_ble_eq_true rfl) d_X_walk_158 ⟨Nat.zero_le _, Nat.zero_le _⟩ (fun u9 h9 => ?_)
    subst h9
    refine hv_fg (L' := [none, none, none, none, none, none, none, none, none, none, none]) [0, 1, 2, 3, 6] rfl ?_
    exact v_X_walk_161 K G hr fu sw hsw _ h
set_option maxRecDepth 100000 in
set_option maxHeartbeats 4000000 in
theorem v_X_walk_35 (K : av_K p s m args meth c D cl8 ca A b_X_walk 11 R_X WS) (G : av_G NS tabON A s s.heap) (hr : meth.sig.returnType = none) {d : Nat} (fu : Nat) {r : List va_E} (sw : Nat → Int32 → Int32 → List va_E → Option (List va_E)) (hsw : ∀ (v0 : Nat) (v1 v2 : Int32) (w u : List va_E), sw v0 v1 v2 w = some u → av_Cv l D cl8 ca NS tabON y_X_walk w_X_walk (rm_X_walk d) [.ref v0, .int v1, .int v2] w (fun x => x = u)) : ∀ (n : Nat) (v0 : Nat) (v1 : Int32) (v2 : Int32) (v3 : Int32) (v4 : Int64) (v6 : Int64) (v8 : Int32) (w : List va_E), f_X_walk_35 fu sw n v0 v1 v2 v3 v4 v6 v8 w = some r → av_VV p l e (rm_X_walk (d + 1)) s m args below meth c D cl8 A ad ca 11 r 35 [some (.ref v0), some (.int v1), some (.int v2), some (.int v3), some (.long v4), none, some (.long v6), none, some (.int v8), none, none] [] w := by
  intro n
  induction n with
  | zero => intro _ _ _ _ _ _ _ _ h; cases h
  | succ n ih =>
    intro v0 v1 v2 v3 v4 v6 v8 w h
    unfold f_X_walk_35 at h
    refine av_iload K d_X_walk_35 rfl ?_
    refine av_aload_n K d_X_walk_37 rfl rfl ?_
    obtain ⟨x1, ex1, h⟩ := hp_bd h
    refine hv_gi K fl_X_20 d_X_walk_38 ex1 ?_
    refine av_icmp_ge (tgt := 110) K d_X_walk_41 rfl (fun hc => ?_) (fun hc => ?_)
    · rw [if_pos hc] at h
      refine av_lload K d_X_walk_110 rfl ?_
      refine av_lconst (v := (0 : Int64)) K d_X_walk_112 (by decide) ?_
      refine av_lcmp K d_X_walk_113 ?_
      refine av_if_eq (tgt := 123) K d_X_walk_114 rfl (fun hc => ?_) (fun hc => ?_)
      · rw [if_pos hc] at h
        refine hv_fg (L' := [some (.ref v0), some (.int v1), some (.int v2), some (.int v3), none, none, some (.long v6), none, none, none, none]) [4, 8] rfl ?_
        exact v_X_walk_123 K G hr fu sw hsw (v0) (v1) (v2) (v3) (v6) _ h
      · rw [if_neg hc] at h
        refine av_aload_n K d_X_walk_117 rfl rfl ?_
        refine av_iload_n K d_X_walk_118 rfl rfl ?_
        refine av_iload_n K d_X_walk_119 rfl rfl ?_
        obtain ⟨_, eo120, h⟩ := hp_bd h
        obtain ⟨r2, er2, h⟩ := hp_bd h
        obtain ⟨fs120, ho120⟩ := hp_is_of eo120
        refine av_cVv K G (hsw _ _ _ _ _ er2) (cwV 2 K.2.2.2.2.1 (gV ml_X_40 im_X_walk se_X_walk in_X co_X_walk) rfl rfl rfl cd_X_walk ⟨by simp only [rm_X_walk, rm_X_walk]; omega, by simp only [rm_X_walk, rm_X_walk]; omega⟩) rfl ho120 rfl rfl (Nat.le_of_ble_eq_true rfl) d_X_walk_120 ⟨Nat.zero_le _, Nat.zero_le _⟩ (fun u9 h9 => ?_)
        subst h9
        refine hv_fg (L' := [some (.ref v0), some (.int v1), some (.int v2), some (.int v3), none, none, some (.long v6), none, none, none, none]) [4, 8] rfl ?_
        exact v_X_walk_123 K G hr fu sw hsw (v0) (v1) (v2) (v3) (v6) _ h
    · rw [if_neg hc] at h
      refine av_aload_n K d_X_walk_44 rfl rfl ?_
      obtain ⟨q3, eq3, h⟩ := hp_bd h
      refine hv_gr K fl_X_17 d_X_walk_45 eq3 ?_
      refine av_iload_n K d_X_walk_48 rfl rfl ?_
      obtain ⟨q4, eq4, h⟩ := hp_bd h
      refine hv_ra K d_X_walk_49 eq4 ?_
      refine av_iload K d_X_walk_50 rfl ?_
      obtain ⟨y5, ey5, h⟩ := hp_bd h
      refine hv_rl K d_X_walk_52 ey5 ?_
      refine av_aload_n K d_X_walk_53 rfl rfl ?_
      refine av_aload_n K d_X_walk_54 rfl rfl ?_
      obtain ⟨q6, eq6, h⟩ := hp_bd h
      refine hv_gr K fl_X_17 d_X_walk_55 eq6 ?_
      refine av_iload_n K d_X_walk_58 rfl rfl ?_
      obtain ⟨q7, eq7, h⟩ := hp_bd h
      refine hv_ra K d_X_walk_59 eq7 ?_
      refine av_iload K d_X_walk_60 rfl ?_
      refine av_iload_n K d_X_walk_62 rfl rfl ?_
      obtain ⟨_, eo63, h⟩ := hp_bd h
      obtain ⟨r8, er8, h⟩ := hp_bd h
      obtain ⟨fs63, ho63⟩ := hp_is_of eo63
      refine av_cVl K G (c_X_flipped (tab := tabON) er8) (cwV 3 K.2.2.2.2.1 (gV ml_X_55 im_X_flipped se_X_flipped in_X co_X_flipped) rfl rfl rfl cd_X_flipped ⟨by simp only [rm_X_walk, rm_X_flipped]; omega, by simp only [rm_X_walk, rm_X_flipped]; omega⟩) rfl ho63 rfl rfl (Nat.le_of_ble_eq_true rfl) d_X_walk_63 ⟨Nat.zero_le _, Nat.zero_le _⟩ (fun a9 u9 h9 => ?_)
      obtain ⟨rfl, rfl⟩ : a9 = r8.1 ∧ u9 = r8.2 := ⟨congrArg Prod.fst h9, congrArg Prod.snd h9⟩
      refine av_land K d_X_walk_66 ?_
      refine av_lstore (L' := [some (.ref v0), some (.int v1), some (.int v2), some (.int v3), some (.long v4), none, some (.long v6), none, some (.int v8), some (.long (y5 &&& r8.1)), none]) K d_X_walk_67 (Nat.le_of_ble_eq_true rfl) rfl ?_
      refine av_aload_n K d_X_walk_69 rfl rfl ?_
      obtain ⟨q9, eq9, h⟩ := hp_bd h
      refine hv_gr K fl_X_17 d_X_walk_70 eq9 ?_
      refine av_iload_n K d_X_walk_73 rfl rfl ?_
      obtain ⟨q10, eq10, h⟩ := hp_bd h
      refine hv_ra K d_X_walk_74 eq10 ?_
      refine av_iload K d_X_walk_75 rfl ?_
      refine av_lload K d_X_walk_77 rfl ?_
      obtain ⟨w11, ew11, h⟩ := hp_bd h
      refine hv_wl K d_X_walk_79 ew11 ?_
      refine av_lload K d_X_walk_80 rfl ?_
      refine av_lload K d_X_walk_82 rfl ?_
      refine av_lor K d_X_walk_84 ?_
      refine av_lstore (L' := [some (.ref v0), some (.int v1), some (.int v2), some (.int v3), some (.long (v4 ||| (y5 &&& r8.1))), none, some (.long v6), none, some (.int v8), some (.long (y5 &&& r8.1)), none]) K d_X_walk_85 (Nat.le_of_ble_eq_true rfl) rfl ?_
      refine av_lload K d_X_walk_87 rfl ?_
      refine av_aload_n K d_X_walk_89 rfl rfl ?_
      obtain ⟨q12, eq12, h⟩ := hp_bd h
      refine hv_gr K fl_X_17 d_X_walk_90 eq12 ?_
      refine av_iload_n K d_X_walk_93 rfl rfl ?_
      obtain ⟨q13, eq13, h⟩ := hp_bd h
      refine hv_ra K d_X_walk_94 eq13 ?_
      refine av_iload K d_X_walk_95 rfl ?_
      obtain ⟨y14, ey14, h⟩ := hp_bd h
      refine hv_rl K d_X_walk_97 ey14 ?_
      refine av_lload K d_X_walk_98 rfl ?_
      refine av_lxor K d_X_walk_100 ?_
      refine av_lor K d_X_walk_101 ?_
      refine av_lstore (L' := [some (.ref v0), some (.int v1), some (.int v2), some (.int v3), some (.long (v4 ||| (y5 &&& r8.1))), none, some (.long (v6 ||| (y14 ^^^ (y5 &&& r8.1)))), none, some (.int v8), some (.long (y5 &&& r8.1)), none]) K d_X_walk_102 (Nat.le_of_ble_eq_true rfl) rfl ?_
      refine av_iinc (v := (v8 + (1 : Int32))) (L' := [some (.ref v0), some (.int v1), some (.int v2), some (.int v3), some (.long (v4 ||| (y5 &&& r8.1))), none, some (.long (v6 ||| (y14 ^^^ (y5 &&& r8.1)))), none, some (.int (v8 + (1 : Int32))), some (.long (y5 &&& r8.1)), none]) K d_X_walk_104 rfl (congrArg (fun z => v8 + z) (show Int32.ofInt 1 = (1 : Int32) by decide)) (Nat.le_of_ble_eq_true rfl) rfl ?_
      refine av_goto (tgt := 35) K d_X_walk_107 rfl ?_
      refine hv_fg (L' := [some (.ref v0), some (.int v1), some (.int v2), some (.int v3), some (.long (v4 ||| (y5 &&& r8.1))), none, some (.long (v6 ||| (y14 ^^^ (y5 &&& r8.1)))), none, some (.int (v8 + (1 : Int32))), none, none]) [9] rfl ?_
      exact ih (v0) (v1) (v2) (v3) ((v4 ||| (y5 &&& r8.1))) ((v6 ||| (y14 ^^^ (y5 &&& r8.1)))) ((v8 + (1 : Int32))) _ h
set_option maxRecDepth 100000 in
set_option maxHeartbeats 4000000 in
theorem v_X_walk_11 (K : av_K p s m args meth c D cl8 ca A b_X_walk 11 R_X WS) (G : av_G NS tabON A s s.heap) (hr : meth.sig.returnType = none) {d : Nat} (fu : Nat) {r : List va_E} (sw : Nat → Int32 → Int32 → List va_E → Option (List va_E)) (hsw : ∀ (v0 : Nat) (v1 v2 : Int32) (w u : List va_E), sw v0 v1 v2 w = some u → av_Cv l D cl8 ca NS tabON y_X_walk w_X_walk (rm_X_walk d) [.ref v0, .int v1, .int v2] w (fun x => x = u)) (w : List va_E) (h : f_X_walk_11 fu sw w = some r) : av_VV p l e (rm_X_walk (d + 1)) s m args below meth c D cl8 A ad ca 11 r 11 [none, none, none, none, none, none, none, none, none, none, none] [] w := by
  unfold f_X_walk_11 at h
  obtain rfl := Option.some.inj h
  exact av_return K hr d_X_walk_11 rfl
set_option maxRecDepth 100000 in
set_option maxHeartbeats 4000000 in
theorem v_X_walk_b (K : av_K p s m args meth c D cl8 ca A b_X_walk 11 R_X WS) (G : av_G NS tabON A s s.heap) (hr : meth.sig.returnType = none) {d : Nat} (fu : Nat) {r : List va_E} (sw : Nat → Int32 → Int32 → List va_E → Option (List va_E)) (hsw : ∀ (v0 : Nat) (v1 v2 : Int32) (w u : List va_E), sw v0 v1 v2 w = some u → av_Cv l D cl8 ca NS tabON y_X_walk w_X_walk (rm_X_walk d) [.ref v0, .int v1, .int v2] w (fun x => x = u)) (v0 : Nat) (v1 : Int32) (v2 : Int32) (w : List va_E) (h : f_X_walk_b fu sw v0 v1 v2 w = some r) : av_VV p l e (rm_X_walk (d + 1)) s m args below meth c D cl8 A ad ca 11 r 0 [some (.ref v0), some (.int v1), some (.int v2), none, none, none, none, none, none, none, none] [] w := by
  unfold f_X_walk_b at h
  refine av_aload_n K d_X_walk_0 rfl rfl ?_
  obtain ⟨x1, ex1, h⟩ := hp_bd h
  refine hv_gi K fl_X_27 d_X_walk_1 ex1 ?_
  refine av_if_ne (tgt := 11) K d_X_walk_4 rfl (fun hc => ?_) (fun hc => ?_)
  · rw [if_neg hc] at h
    refine hv_fg (L' := [none, none, none, none, none, none, none, none, none, none, none]) [0, 1, 2] rfl ?_
    exact v_X_walk_11 K G hr fu sw hsw _ h
  · rw [if_pos hc] at h
    refine av_iload_n K d_X_walk_7 rfl rfl ?_
    refine av_if_ge (tgt := 12) K d_X_walk_8 rfl (fun hc => ?_) (fun hc => ?_)
    · rw [if_pos hc] at h
      refine av_iload_n K d_X_walk_12 rfl rfl ?_
      refine av_if_ne (tgt := 22) K d_X_walk_13 rfl (fun hc => ?_) (fun hc => ?_)
      · rw [if_neg hc] at h
        refine av_iload_n K d_X_walk_22 rfl rfl ?_
        refine av_iconst (v := (1 : Int32)) K d_X_walk_23 (by decide) ?_
        refine av_isub K d_X_walk_24 ?_
        refine av_istore_n (L' := [some (.ref v0), some (.int v1), some (.int v2), some (.int (v1 - (1 : Int32))), none, none, none, none, none, none, none]) K d_X_walk_25 rfl (Nat.le_of_ble_eq_true rfl) rfl ?_
        refine av_lconst (v := (0 : Int64)) K d_X_walk_26 (by decide) ?_
        refine av_lstore (L' := [some (.ref v0), some (.int v1), some (.int v2), some (.int (v1 - (1 : Int32))), some (.long (0 : Int64)), none, none, none, none, none, none]) K d_X_walk_27 (Nat.le_of_ble_eq_true rfl) rfl ?_
        refine av_lconst (v := (0 : Int64)) K d_X_walk_29 (by decide) ?_
        refine av_lstore (L' := [some (.ref v0), some (.int v1), some (.int v2), some (.int (v1 - (1 : Int32))), some (.long (0 : Int64)), none, some (.long (0 : Int64)), none, none, none, none]) K d_X_walk_30 (Nat.le_of_ble_eq_true rfl) rfl ?_
        refine av_iconst (v := (0 : Int32)) K d_X_walk_32 (by decide) ?_
        refine av_istore (L' := [some (.ref v0), some (.int v1), some (.int v2), some (.int (v1 - (1 : Int32))), some (.long (0 : Int64)), none, some (.long (0 : Int64)), none, some (.int (0 : Int32)), none, none]) K d_X_walk_33 (Nat.le_of_ble_eq_true rfl) rfl ?_
        exact v_X_walk_35 K G hr fu sw hsw fu (v0) (v1) (v2) ((v1 - (1 : Int32))) ((0 : Int64)) ((0 : Int64)) ((0 : Int32)) _ h
      · rw [if_pos hc] at h
        refine av_aload_n K d_X_walk_16 rfl rfl ?_
        refine av_iload_n K d_X_walk_17 rfl rfl ?_
        obtain ⟨_, eo18, h⟩ := hp_bd h
        obtain ⟨r2, er2, h⟩ := hp_bd h
        obtain ⟨fs18, ho18⟩ := hp_is_of eo18
        refine av_cVv K G (c_X_collect (tab := tabON) er2) (cwV 1 K.2.2.2.2.1 (gV ml_X_51 im_X_collect se_X_collect in_X co_X_collect) rfl rfl rfl cd_X_collect ⟨by simp only [rm_X_walk, rm_X_collect]; omega, by simp only [rm_X_walk, rm_X_collect]; omega⟩) rfl ho18 rfl rfl (Nat.le_of_ble_eq_true rfl) d_X_walk_18 ⟨Nat.zero_le _, Nat.zero_le _⟩ (fun u9 h9 => ?_)
        subst h9
        obtain rfl := Option.some.inj h
        exact av_return K hr d_X_walk_21 rfl
    · rw [if_neg hc] at h
      refine hv_fg (L' := [none, none, none, none, none, none, none, none, none, none, none]) [0, 1, 2] rfl ?_
      exact v_X_walk_11 K G hr fu sw hsw _ h
end
def f_X_walk (fu : Nat) : Nat → Nat → Int32 → Int32 → List va_E → Option (List va_E)
  | 0, _, _, _, _ => none
  | d + 1, v0, v1, v2, w => f_X_walk_b fu (f_X_walk fu d) v0 v1 v2 w
set_option maxRecDepth 100000 in
theorem c_X_walk {l : Launch} {D : va_G} {ca : Nat → Nat} {fu : Nat} : ∀ (d : Nat) {v0 : Nat} {v1 v2 : Int32} {w r : List va_E} (h : f_X_walk fu d v0 v1 v2 w = some r), av_Cv l D cl8 ca NS tabON y_X_walk w_X_walk (rm_X_walk d) [.ref v0, .int v1, .int v2] w (fun u => u = r) := by
  intro d
  induction d with
  | zero => intro _ _ _ _ _ h; cases h
  | succ d ih =>
    intro v0 v1 v2 w r h
    exact av_inV (cc := b_X_walk) (nL := 11) (by decide +kernel) rfl (Nat.le_of_ble_eq_true rfl) (fun p e s m args below meth c A ad K G hr => v_X_walk_b K G hr fu (f_X_walk fu d) (fun _ _ _ _ _ e => ih e) v0 v1 v2 w h)

-- FaultTreeDesk$Terms.find(LFaultTreeDesk$Truth;I)V
theorem d_X_find_0 : decode b_X_find 0 = .ok (.aload_n 0, 1) := by decide +kernel
theorem d_X_find_1 : decode b_X_find 1 = .ok (.aload_n 1, 1) := by decide +kernel
theorem d_X_find_2 : decode b_X_find 2 = .ok (.getfield 31, 3) := by decide +kernel
theorem d_X_find_5 : decode b_X_find 5 = .ok (.putfield 20, 3) := by decide +kernel
theorem d_X_find_8 : decode b_X_find 8 = .ok (.aload_n 0, 1) := by decide +kernel
theorem d_X_find_9 : decode b_X_find 9 = .ok (.iconst 0, 1) := by decide +kernel
theorem d_X_find_10 : decode b_X_find 10 = .ok (.putfield 24, 3) := by decide +kernel
theorem d_X_find_13 : decode b_X_find 13 = .ok (.aload_n 0, 1) := by decide +kernel
theorem d_X_find_14 : decode b_X_find 14 = .ok (.iconst 0, 1) := by decide +kernel
theorem d_X_find_15 : decode b_X_find 15 = .ok (.putfield 27, 3) := by decide +kernel
theorem d_X_find_18 : decode b_X_find 18 = .ok (.lconst 0, 1) := by decide +kernel
theorem d_X_find_19 : decode b_X_find 19 = .ok (.lstore_n 3, 1) := by decide +kernel
theorem d_X_find_20 : decode b_X_find 20 = .ok (.iconst 0, 1) := by decide +kernel
theorem d_X_find_21 : decode b_X_find 21 = .ok (.istore 5, 2) := by decide +kernel
theorem d_X_find_23 : decode b_X_find 23 = .ok (.iload 5, 2) := by decide +kernel
theorem d_X_find_25 : decode b_X_find 25 = .ok (.aload_n 0, 1) := by decide +kernel
theorem d_X_find_26 : decode b_X_find 26 = .ok (.getfield 20, 3) := by decide +kernel
theorem d_X_find_29 : decode b_X_find 29 = .ok (.if_icmp .ge 42, 3) := by decide +kernel
theorem d_X_find_32 : decode b_X_find 32 = .ok (.aload_n 0, 1) := by decide +kernel
theorem d_X_find_33 : decode b_X_find 33 = .ok (.getfield 17, 3) := by decide +kernel
theorem d_X_find_36 : decode b_X_find 36 = .ok (.iload_n 2, 1) := by decide +kernel
theorem d_X_find_37 : decode b_X_find 37 = .ok (.aaload, 1) := by decide +kernel
theorem d_X_find_38 : decode b_X_find 38 = .ok (.iload 5, 2) := by decide +kernel
theorem d_X_find_40 : decode b_X_find 40 = .ok (.aload_n 1, 1) := by decide +kernel
theorem d_X_find_41 : decode b_X_find 41 = .ok (.getfield 34, 3) := by decide +kernel
theorem d_X_find_44 : decode b_X_find 44 = .ok (.aload_n 1, 1) := by decide +kernel
theorem d_X_find_45 : decode b_X_find 45 = .ok (.getfield 37, 3) := by decide +kernel
theorem d_X_find_48 : decode b_X_find 48 = .ok (.aaload, 1) := by decide +kernel
theorem d_X_find_49 : decode b_X_find 49 = .ok (.iload 5, 2) := by decide +kernel
theorem d_X_find_51 : decode b_X_find 51 = .ok (.laload, 1) := by decide +kernel
theorem d_X_find_52 : decode b_X_find 52 = .ok (.lastore, 1) := by decide +kernel
theorem d_X_find_53 : decode b_X_find 53 = .ok (.lload_n 3, 1) := by decide +kernel
theorem d_X_find_54 : decode b_X_find 54 = .ok (.aload_n 0, 1) := by decide +kernel
theorem d_X_find_55 : decode b_X_find 55 = .ok (.getfield 17, 3) := by decide +kernel
theorem d_X_find_58 : decode b_X_find 58 = .ok (.iload_n 2, 1) := by decide +kernel
theorem d_X_find_59 : decode b_X_find 59 = .ok (.aaload, 1) := by decide +kernel
theorem d_X_find_60 : decode b_X_find 60 = .ok (.iload 5, 2) := by decide +kernel
theorem d_X_find_62 : decode b_X_find 62 = .ok (.laload, 1) := by decide +kernel
theorem d_X_find_63 : decode b_X_find 63 = .ok (.lor, 1) := by decide +kernel
theorem d_X_find_64 : decode b_X_find 64 = .ok (.lstore_n 3, 1) := by decide +kernel
theorem d_X_find_65 : decode b_X_find 65 = .ok (.iinc 5 1, 3) := by decide +kernel
theorem d_X_find_68 : decode b_X_find 68 = .ok (.goto (-45), 3) := by decide +kernel
theorem d_X_find_71 : decode b_X_find 71 = .ok (.lload_n 3, 1) := by decide +kernel
theorem d_X_find_72 : decode b_X_find 72 = .ok (.lconst 0, 1) := by decide +kernel
theorem d_X_find_73 : decode b_X_find 73 = .ok (.lcmp, 1) := by decide +kernel
theorem d_X_find_74 : decode b_X_find 74 = .ok (.ifCond .eq 9, 3) := by decide +kernel
theorem d_X_find_77 : decode b_X_find 77 = .ok (.aload_n 0, 1) := by decide +kernel
theorem d_X_find_78 : decode b_X_find 78 = .ok (.iload_n 2, 1) := by decide +kernel
theorem d_X_find_79 : decode b_X_find 79 = .ok (.iconst 0, 1) := by decide +kernel
theorem d_X_find_80 : decode b_X_find 80 = .ok (.invokevirtual 40, 3) := by decide +kernel
theorem d_X_find_83 : decode b_X_find 83 = .ok (.return_, 1) := by decide +kernel
def rm_X_find : Room := { frames := 18, cells := 0, slots := 0, locals := 810 }
def f_X_find_83 (fu : Nat) (w : List va_E) : Option (List va_E) := (some w)
def f_X_find_23 (fu : Nat) : Nat → Nat → Nat → Int32 → Int64 → Int32 → List va_E → Option (List va_E)
  | 0, _, _, _, _, _, _ => none
  | n + 1, v0, v1, v2, v3, v5, w => ((hp_gi w v0 4 2).bind fun x1 => (if x1 ≤ v5 then (if (lg_cmp v3 (0 : Int64)) = 0 then (f_X_find_83 fu w) else ((hp_is w v0 4).bind fun _ => ((f_X_walk fu 12 v0 v2 (0 : Int32) w).bind fun r2 => (f_X_find_83 fu r2)))) else ((hp_gr w v0 4 1).bind fun q3 => ((hp_ra w q3 v2).bind fun q4 => ((hp_gr w v1 5 0).bind fun q5 => ((hp_gi w v1 5 4).bind fun x6 => ((hp_ra w q5 x6).bind fun q7 => ((hp_rl w q7 v5).bind fun y8 => ((hp_wl w q4 v5 y8).bind fun w9 => ((hp_gr w9 v0 4 1).bind fun q10 => ((hp_ra w9 q10 v2).bind fun q11 => ((hp_rl w9 q11 v5).bind fun y12 => (f_X_find_23 fu n (v0) (v1) (v2) ((v3 ||| y12)) ((v5 + (1 : Int32))) w9)))))))))))))
def f_X_find (fu : Nat) (v0 : Nat) (v1 : Nat) (v2 : Int32) (w : List va_E) : Option (List va_E) := ((hp_gi w v1 5 3).bind fun x1 => ((hp_pi w v0 4 2 x1).bind fun w2 => ((hp_pi w2 v0 4 3 (0 : Int32)).bind fun w3 => ((hp_pz w3 v0 4 4 (0 : Int32)).bind fun w4 => (f_X_find_23 fu fu (v0) (v1) (v2) ((0 : Int64)) ((0 : Int32)) w4)))))
section
variable {p : Program} {l : Launch} {e : Env} {s : State} {m : MethodId} {args : Array Value} {below : List Frame} {meth : Method} {c : Code} {D : va_G} {ca : Nat → Nat} {A : Nat → Prop} {ad : Nat → Nat}
set_option maxRecDepth 100000 in
set_option maxHeartbeats 4000000 in
theorem v_X_find_83 (K : av_K p s m args meth c D cl8 ca A b_X_find 6 R_X WS) (G : av_G NS tabON A s s.heap) (hr : meth.sig.returnType = none) (fu : Nat) {r : List va_E} (w : List va_E) (h : f_X_find_83 fu w = some r) : av_VV p l e rm_X_find s m args below meth c D cl8 A ad ca 6 r 83 [none, none, none, none, none, none] [] w := by
  unfold f_X_find_83 at h
  obtain rfl := Option.some.inj h
  exact av_return K hr d_X_find_83 rfl
set_option maxRecDepth 100000 in
set_option maxHeartbeats 4000000 in
theorem v_X_find_23 (K : av_K p s m args meth c D cl8 ca A b_X_find 6 R_X WS) (G : av_G NS tabON A s s.heap) (hr : meth.sig.returnType = none) (fu : Nat) {r : List va_E} : ∀ (n : Nat) (v0 : Nat) (v1 : Nat) (v2 : Int32) (v3 : Int64) (v5 : Int32) (w : List va_E), f_X_find_23 fu n v0 v1 v2 v3 v5 w = some r → av_VV p l e rm_X_find s m args below meth c D cl8 A ad ca 6 r 23 [some (.ref v0), some (.ref v1), some (.int v2), some (.long v3), none, some (.int v5)] [] w := by
  intro n
  induction n with
  | zero => intro _ _ _ _ _ _ h; cases h
  | succ n ih =>
    intro v0 v1 v2 v3 v5 w h
    unfold f_X_find_23 at h
    refine av_iload K d_X_find_23 rfl ?_
    refine av_aload_n K d_X_find_25 rfl rfl ?_
    obtain ⟨x1, ex1, h⟩ := hp_bd h
    refine hv_gi K fl_X_20 d_X_find_26 ex1 ?_
    refine av_icmp_ge (tgt := 71) K d_X_find_29 rfl (fun hc => ?_) (fun hc => ?_)
    · rw [if_pos hc] at h
      refine av_lload_n K d_X_find_71 rfl rfl ?_
      refine av_lconst (v := (0 : Int64)) K d_X_find_72 (by decide) ?_
      refine av_lcmp K d_X_find_73 ?_
      refine av_if_eq (tgt := 83) K d_X_find_74 rfl (fun hc => ?_) (fun hc => ?_)
      · rw [if_pos hc] at h
        refine hv_fg (L' := [none, none, none, none, none, none]) [0, 1, 2, 3, 5] rfl ?_
        exact v_X_find_83 K G hr fu _ h
      · rw [if_neg hc] at h
        refine av_aload_n K d_X_find_77 rfl rfl ?_
        refine av_iload_n K d_X_find_78 rfl rfl ?_
        refine av_iconst (v := (0 : Int32)) K d_X_find_79 (by decide) ?_
        obtain ⟨_, eo80, h⟩ := hp_bd h
        obtain ⟨r2, er2, h⟩ := hp_bd h
        obtain ⟨fs80, ho80⟩ := hp_is_of eo80
        refine av_cVv K G (c_X_walk 12 er2) (cwV 2 K.2.2.2.2.1 (gV ml_X_40 im_X_walk se_X_walk in_X co_X_walk) rfl rfl rfl cd_X_walk ⟨Nat.le_of_ble_eq_true rfl, Nat.le_of_ble_eq_true rfl⟩) rfl ho80 rfl rfl (Nat.le_of_ble_eq_true rfl) d_X_find_80 ⟨Nat.zero_le _, Nat.zero_le _⟩ (fun u9 h9 => ?_)
        subst h9
        refine hv_fg (L' := [none, none, none, none, none, none]) [0, 1, 2, 3, 5] rfl ?_
        exact v_X_find_83 K G hr fu _ h
    · rw [if_neg hc] at h
      refine av_aload_n K d_X_find_32 rfl rfl ?_
      obtain ⟨q3, eq3, h⟩ := hp_bd h
      refine hv_gr K fl_X_17 d_X_find_33 eq3 ?_
      refine av_iload_n K d_X_find_36 rfl rfl ?_
      obtain ⟨q4, eq4, h⟩ := hp_bd h
      refine hv_ra K d_X_find_37 eq4 ?_
      refine av_iload K d_X_find_38 rfl ?_
      refine av_aload_n K d_X_find_40 rfl rfl ?_
      obtain ⟨q5, eq5, h⟩ := hp_bd h
      refine hv_grN K G fl_X_34 d_X_find_41 eq5 ?_
      refine av_aload_n K d_X_find_44 rfl rfl ?_
      obtain ⟨x6, ex6, h⟩ := hp_bd h
      refine hv_giN K G fl_X_37 d_X_find_45 ex6 ?_
      obtain ⟨q7, eq7, h⟩ := hp_bd h
      refine hv_ra K d_X_find_48 eq7 ?_
      refine av_iload K d_X_find_49 rfl ?_
      obtain ⟨y8, ey8, h⟩ := hp_bd h
      refine hv_rl K d_X_find_51 ey8 ?_
      obtain ⟨w9, ew9, h⟩ := hp_bd h
      refine hv_wl K d_X_find_52 ew9 ?_
      refine av_lload_n K d_X_find_53 rfl rfl ?_
      refine av_aload_n K d_X_find_54 rfl rfl ?_
      obtain ⟨q10, eq10, h⟩ := hp_bd h
      refine hv_gr K fl_X_17 d_X_find_55 eq10 ?_
      refine av_iload_n K d_X_find_58 rfl rfl ?_
      obtain ⟨q11, eq11, h⟩ := hp_bd h
      refine hv_ra K d_X_find_59 eq11 ?_
      refine av_iload K d_X_find_60 rfl ?_
      obtain ⟨y12, ey12, h⟩ := hp_bd h
      refine hv_rl K d_X_find_62 ey12 ?_
      refine av_lor K d_X_find_63 ?_
      refine av_lstore_n (L' := [some (.ref v0), some (.ref v1), some (.int v2), some (.long (v3 ||| y12)), none, some (.int v5)]) K d_X_find_64 rfl (Nat.le_of_ble_eq_true rfl) rfl ?_
      refine av_iinc (v := (v5 + (1 : Int32))) (L' := [some (.ref v0), some (.ref v1), some (.int v2), some (.long (v3 ||| y12)), none, some (.int (v5 + (1 : Int32)))]) K d_X_find_65 rfl (congrArg (fun z => v5 + z) (show Int32.ofInt 1 = (1 : Int32) by decide)) (Nat.le_of_ble_eq_true rfl) rfl ?_
      refine av_goto (tgt := 23) K d_X_find_68 rfl ?_
      exact ih (v0) (v1) (v2) ((v3 ||| y12)) ((v5 + (1 : Int32))) _ h
set_option maxRecDepth 100000 in
set_option maxHeartbeats 4000000 in
theorem v_X_find (K : av_K p s m args meth c D cl8 ca A b_X_find 6 R_X WS) (G : av_G NS tabON A s s.heap) (hr : meth.sig.returnType = none) (fu : Nat) {r : List va_E} (v0 : Nat) (v1 : Nat) (v2 : Int32) (w : List va_E) (h : f_X_find fu v0 v1 v2 w = some r) : av_VV p l e rm_X_find s m args below meth c D cl8 A ad ca 6 r 0 [some (.ref v0), some (.ref v1), some (.int v2), none, none, none] [] w := by
  unfold f_X_find at h
  refine av_aload_n K d_X_find_0 rfl rfl ?_
  refine av_aload_n K d_X_find_1 rfl rfl ?_
  obtain ⟨x1, ex1, h⟩ := hp_bd h
  refine hv_giN K G fl_X_31 d_X_find_2 ex1 ?_
  obtain ⟨w2, ew2, h⟩ := hp_bd h
  refine hv_pi K fp_X_20 d_X_find_5 ew2 ?_
  refine av_aload_n K d_X_find_8 rfl rfl ?_
  refine av_iconst (v := (0 : Int32)) K d_X_find_9 (by decide) ?_
  obtain ⟨w3, ew3, h⟩ := hp_bd h
  refine hv_pi K fp_X_24 d_X_find_10 ew3 ?_
  refine av_aload_n K d_X_find_13 rfl rfl ?_
  refine av_iconst (v := (0 : Int32)) K d_X_find_14 (by decide) ?_
  obtain ⟨w4, ew4, h⟩ := hp_bd h
  refine hv_pz K fp_X_27 d_X_find_15 ew4 ?_
  refine av_lconst (v := (0 : Int64)) K d_X_find_18 (by decide) ?_
  refine av_lstore_n (L' := [some (.ref v0), some (.ref v1), some (.int v2), some (.long (0 : Int64)), none, none]) K d_X_find_19 rfl (Nat.le_of_ble_eq_true rfl) rfl ?_
  refine av_iconst (v := (0 : Int32)) K d_X_find_20 (by decide) ?_
  refine av_istore (L' := [some (.ref v0), some (.ref v1), some (.int v2), some (.long (0 : Int64)), none, some (.int (0 : Int32))]) K d_X_find_21 (Nat.le_of_ble_eq_true rfl) rfl ?_
  exact v_X_find_23 K G hr fu fu (v0) (v1) (v2) ((0 : Int64)) ((0 : Int32)) _ h
end
set_option maxRecDepth 100000 in
theorem c_X_find {l : Launch} {D : va_G} {ca : Nat → Nat} {tab : Nat → Int64} {fu : Nat} {v0 : Nat} {v1 : Nat} {v2 : Int32} {w : List va_E} {r : List va_E} (h : f_X_find fu v0 v1 v2 w = some r) : av_Cv l D cl8 ca NS tabON y_X_find w_X_find rm_X_find [.ref v0, .ref v1, .int v2] w (fun u => u = r) :=
  av_inV (cc := b_X_find) (nL := 6) (by decide +kernel) rfl (Nat.le_of_ble_eq_true rfl) (fun p e s m args below meth c A ad K G hr => v_X_find K G hr fu v0 v1 v2 w h)

-- FaultTreeDesk$Terms.onOf(I)I
theorem d_X_onOf_0 : decode b_X_onOf 0 = .ok (.aload_n 0, 1) := by decide +kernel
theorem d_X_onOf_1 : decode b_X_onOf 1 = .ok (.getfield 9, 3) := by decide +kernel
theorem d_X_onOf_4 : decode b_X_onOf 4 = .ok (.iload_n 1, 1) := by decide +kernel
theorem d_X_onOf_5 : decode b_X_onOf 5 = .ok (.iaload, 1) := by decide +kernel
theorem d_X_onOf_6 : decode b_X_onOf 6 = .ok (.bipush 10, 2) := by decide +kernel
theorem d_X_onOf_8 : decode b_X_onOf 8 = .ok (.ishr, 1) := by decide +kernel
theorem d_X_onOf_9 : decode b_X_onOf 9 = .ok (.sipush 1023, 3) := by decide +kernel
theorem d_X_onOf_12 : decode b_X_onOf 12 = .ok (.iand, 1) := by decide +kernel
theorem d_X_onOf_13 : decode b_X_onOf 13 = .ok (.ireturn, 1) := by decide +kernel
def rm_X_onOf : Room := { frames := 0, cells := 0, slots := 0, locals := 0 }
def f_X_onOf (fu : Nat) (v0 : Nat) (v1 : Int32) (w : List va_E) : Option (Int32 × List va_E) := ((hp_gr w v0 4 0).bind fun q1 => ((hp_ri w q1 v1).bind fun x2 => (some (((x2 >>> ((10 : Int32) &&& 31)) &&& (1023 : Int32)), w))))
section
variable {p : Program} {l : Launch} {e : Env} {s : State} {m : MethodId} {args : Array Value} {below : List Frame} {meth : Method} {c : Code} {D : va_G} {ca : Nat → Nat} {A : Nat → Prop} {ad : Nat → Nat}
set_option maxRecDepth 100000 in
set_option maxHeartbeats 4000000 in
theorem v_X_onOf (K : av_K p s m args meth c D cl8 ca A b_X_onOf 2 R_X WS) (G : av_G NS tabON A s s.heap) (hr : meth.sig.returnType = some .int) (fu : Nat) {r : Int32 × List va_E} (v0 : Nat) (v1 : Int32) (w : List va_E) (h : f_X_onOf fu v0 v1 w = some r) : av_VI p l e rm_X_onOf s m args below meth c D cl8 A ad ca 2 r 0 [some (.ref v0), some (.int v1)] [] w := by
  unfold f_X_onOf at h
  refine av_aload_n K d_X_onOf_0 rfl rfl ?_
  obtain ⟨q1, eq1, h⟩ := hp_bd h
  refine hv_gr K fl_X_9 d_X_onOf_1 eq1 ?_
  refine av_iload_n K d_X_onOf_4 rfl rfl ?_
  obtain ⟨x2, ex2, h⟩ := hp_bd h
  refine hv_ri K d_X_onOf_5 ex2 ?_
  refine av_bipush (v := (10 : Int32)) K d_X_onOf_6 (by decide) ?_
  refine av_ishr K d_X_onOf_8 ?_
  refine av_sipush (v := (1023 : Int32)) K d_X_onOf_9 (by decide) ?_
  refine av_iand K d_X_onOf_12 ?_
  obtain rfl := Option.some.inj h
  exact av_ireturn K hr d_X_onOf_13 rfl
end
set_option maxRecDepth 100000 in
theorem c_X_onOf {l : Launch} {D : va_G} {ca : Nat → Nat} {tab : Nat → Int64} {fu : Nat} {v0 : Nat} {v1 : Int32} {w : List va_E} {r : Int32 × List va_E} (h : f_X_onOf fu v0 v1 w = some r) : av_Ci l D cl8 ca NS tabON y_X_onOf w_X_onOf rm_X_onOf [.ref v0, .int v1] w (fun v u => (v, u) = r) :=
  av_inI (cc := b_X_onOf) (nL := 2) (by decide +kernel) rfl (Nat.le_of_ble_eq_true rfl) (fun p e s m args below meth c A ad K G hr => v_X_onOf K G hr fu v0 v1 w h)

-- FaultTreeDesk$Terms.offOf(I)I
theorem d_X_offOf_0 : decode b_X_offOf 0 = .ok (.aload_n 0, 1) := by decide +kernel
theorem d_X_offOf_1 : decode b_X_offOf 1 = .ok (.getfield 9, 3) := by decide +kernel
theorem d_X_offOf_4 : decode b_X_offOf 4 = .ok (.iload_n 1, 1) := by decide +kernel
theorem d_X_offOf_5 : decode b_X_offOf 5 = .ok (.iaload, 1) := by decide +kernel
theorem d_X_offOf_6 : decode b_X_offOf 6 = .ok (.sipush 1023, 3) := by decide +kernel
theorem d_X_offOf_9 : decode b_X_offOf 9 = .ok (.iand, 1) := by decide +kernel
theorem d_X_offOf_10 : decode b_X_offOf 10 = .ok (.ireturn, 1) := by decide +kernel
def rm_X_offOf : Room := { frames := 0, cells := 0, slots := 0, locals := 0 }
def f_X_offOf (fu : Nat) (v0 : Nat) (v1 : Int32) (w : List va_E) : Option (Int32 × List va_E) := ((hp_gr w v0 4 0).bind fun q1 => ((hp_ri w q1 v1).bind fun x2 => (some ((x2 &&& (1023 : Int32)), w))))
section
variable {p : Program} {l : Launch} {e : Env} {s : State} {m : MethodId} {args : Array Value} {below : List Frame} {meth : Method} {c : Code} {D : va_G} {ca : Nat → Nat} {A : Nat → Prop} {ad : Nat → Nat}
set_option maxRecDepth 100000 in
set_option maxHeartbeats 4000000 in
theorem v_X_offOf (K : av_K p s m args meth c D cl8 ca A b_X_offOf 2 R_X WS) (G : av_G NS tabON A s s.heap) (hr : meth.sig.returnType = some .int) (fu : Nat) {r : Int32 × List va_E} (v0 : Nat) (v1 : Int32) (w : List va_E) (h : f_X_offOf fu v0 v1 w = some r) : av_VI p l e rm_X_offOf s m args below meth c D cl8 A ad ca 2 r 0 [some (.ref v0), some (.int v1)] [] w := by
  unfold f_X_offOf at h
  refine av_aload_n K d_X_offOf_0 rfl rfl ?_
  obtain ⟨q1, eq1, h⟩ := hp_bd h
  refine hv_gr K fl_X_9 d_X_offOf_1 eq1 ?_
  refine av_iload_n K d_X_offOf_4 rfl rfl ?_
  obtain ⟨x2, ex2, h⟩ := hp_bd h
  refine hv_ri K d_X_offOf_5 ex2 ?_
  refine av_sipush (v := (1023 : Int32)) K d_X_offOf_6 (by decide) ?_
  refine av_iand K d_X_offOf_9 ?_
  obtain rfl := Option.some.inj h
  exact av_ireturn K hr d_X_offOf_10 rfl
end
set_option maxRecDepth 100000 in
theorem c_X_offOf {l : Launch} {D : va_G} {ca : Nat → Nat} {tab : Nat → Int64} {fu : Nat} {v0 : Nat} {v1 : Int32} {w : List va_E} {r : Int32 × List va_E} (h : f_X_offOf fu v0 v1 w = some r) : av_Ci l D cl8 ca NS tabON y_X_offOf w_X_offOf rm_X_offOf [.ref v0, .int v1] w (fun v u => (v, u) = r) :=
  av_inI (cc := b_X_offOf) (nL := 2) (by decide +kernel) rfl (Nat.le_of_ble_eq_true rfl) (fun p e s m args below meth c A ad K G hr => v_X_offOf K G hr fu v0 v1 w h)

-- FaultTreeDesk$Terms.countUpTo(I)I
theorem d_X_countUpTo_0 : decode b_X_countUpTo 0 = .ok (.iconst 0, 1) := by decide +kernel
theorem d_X_countUpTo_1 : decode b_X_countUpTo 1 = .ok (.istore_n 2, 1) := by decide +kernel
theorem d_X_countUpTo_2 : decode b_X_countUpTo 2 = .ok (.iconst 0, 1) := by decide +kernel
theorem d_X_countUpTo_3 : decode b_X_countUpTo 3 = .ok (.istore_n 3, 1) := by decide +kernel
theorem d_X_countUpTo_4 : decode b_X_countUpTo 4 = .ok (.iload_n 3, 1) := by decide +kernel
theorem d_X_countUpTo_5 : decode b_X_countUpTo 5 = .ok (.aload_n 0, 1) := by decide +kernel
theorem d_X_countUpTo_6 : decode b_X_countUpTo 6 = .ok (.getfield 24, 3) := by decide +kernel
theorem d_X_countUpTo_9 : decode b_X_countUpTo 9 = .ok (.if_icmp .ge 25, 3) := by decide +kernel
theorem d_X_countUpTo_12 : decode b_X_countUpTo 12 = .ok (.aload_n 0, 1) := by decide +kernel
theorem d_X_countUpTo_13 : decode b_X_countUpTo 13 = .ok (.getfield 9, 3) := by decide +kernel
theorem d_X_countUpTo_16 : decode b_X_countUpTo 16 = .ok (.iload_n 3, 1) := by decide +kernel
theorem d_X_countUpTo_17 : decode b_X_countUpTo 17 = .ok (.iaload, 1) := by decide +kernel
theorem d_X_countUpTo_18 : decode b_X_countUpTo 18 = .ok (.bipush 20, 2) := by decide +kernel
theorem d_X_countUpTo_20 : decode b_X_countUpTo 20 = .ok (.ishr, 1) := by decide +kernel
theorem d_X_countUpTo_21 : decode b_X_countUpTo 21 = .ok (.iload_n 1, 1) := by decide +kernel
theorem d_X_countUpTo_22 : decode b_X_countUpTo 22 = .ok (.if_icmp .gt 6, 3) := by decide +kernel
theorem d_X_countUpTo_25 : decode b_X_countUpTo 25 = .ok (.iinc 2 1, 3) := by decide +kernel
theorem d_X_countUpTo_28 : decode b_X_countUpTo 28 = .ok (.iinc 3 1, 3) := by decide +kernel
theorem d_X_countUpTo_31 : decode b_X_countUpTo 31 = .ok (.goto (-27), 3) := by decide +kernel
theorem d_X_countUpTo_34 : decode b_X_countUpTo 34 = .ok (.iload_n 2, 1) := by decide +kernel
theorem d_X_countUpTo_35 : decode b_X_countUpTo 35 = .ok (.ireturn, 1) := by decide +kernel
def rm_X_countUpTo : Room := { frames := 0, cells := 0, slots := 0, locals := 0 }
def f_X_countUpTo_28 (fu : Nat) (k4 : Nat → Int32 → Int32 → Int32 → List va_E → Option (Int32 × List va_E)) (v0 : Nat) (v1 : Int32) (v2 : Int32) (v3 : Int32) (w : List va_E) : Option (Int32 × List va_E) := (k4 (v0) (v1) (v2) ((v3 + (1 : Int32))) w)
def f_X_countUpTo_4 (fu : Nat) : Nat → Nat → Int32 → Int32 → Int32 → List va_E → Option (Int32 × List va_E)
  | 0, _, _, _, _, _ => none
  | n + 1, v0, v1, v2, v3, w => ((hp_gi w v0 4 3).bind fun x1 => (if x1 ≤ v3 then (some (v2, w)) else ((hp_gr w v0 4 0).bind fun q2 => ((hp_ri w q2 v3).bind fun x3 => (if v1 < (x3 >>> ((20 : Int32) &&& 31)) then (f_X_countUpTo_28 fu (f_X_countUpTo_4 fu n) (v0) (v1) (v2) (v3) w) else (f_X_countUpTo_28 fu (f_X_countUpTo_4 fu n) (v0) (v1) ((v2 + (1 : Int32))) (v3) w))))))
def f_X_countUpTo (fu : Nat) (v0 : Nat) (v1 : Int32) (w : List va_E) : Option (Int32 × List va_E) := (f_X_countUpTo_4 fu fu (v0) (v1) ((0 : Int32)) ((0 : Int32)) w)
section
variable {p : Program} {l : Launch} {e : Env} {s : State} {m : MethodId} {args : Array Value} {below : List Frame} {meth : Method} {c : Code} {D : va_G} {ca : Nat → Nat} {A : Nat → Prop} {ad : Nat → Nat}
set_option maxRecDepth 100000 in
set_option maxHeartbeats 4000000 in
theorem v_X_countUpTo_28 (K : av_K p s m args meth c D cl8 ca A b_X_countUpTo 4 R_X WS) (G : av_G NS tabON A s s.heap) (hr : meth.sig.returnType = some .int) (fu : Nat) {r : Int32 × List va_E} (k4 : Nat → Int32 → Int32 → Int32 → List va_E → Option (Int32 × List va_E)) (hk4 : ∀ (v0 : Nat) (v1 : Int32) (v2 : Int32) (v3 : Int32) (w : List va_E), k4 v0 v1 v2 v3 w = some r → av_VI p l e rm_X_countUpTo s m args below meth c D cl8 A ad ca 4 r 4 [some (.ref v0), some (.int v1), some (.int v2), some (.int v3)] [] w) (v0 : Nat) (v1 : Int32) (v2 : Int32) (v3 : Int32) (w : List va_E) (h : f_X_countUpTo_28 fu k4 v0 v1 v2 v3 w = some r) : av_VI p l e rm_X_countUpTo s m args below meth c D cl8 A ad ca 4 r 28 [some (.ref v0), some (.int v1), some (.int v2), some (.int v3)] [] w := by
  unfold f_X_countUpTo_28 at h
  refine av_iinc (v := (v3 + (1 : Int32))) (L' := [some (.ref v0), some (.int v1), some (.int v2), some (.int (v3 + (1 : Int32)))]) K d_X_countUpTo_28 rfl (congrArg (fun z => v3 + z) (show Int32.ofInt 1 = (1 : Int32) by decide)) (Nat.le_of_ble_eq_true rfl) rfl ?_
  refine av_goto (tgt := 4) K d_X_countUpTo_31 rfl ?_
  exact hk4 (v0) (v1) (v2) ((v3 + (1 : Int32))) _ h
set_option maxRecDepth 100000 in
set_option maxHeartbeats 4000000 in
theorem v_X_countUpTo_4 (K : av_K p s m args meth c D cl8 ca A b_X_countUpTo 4 R_X WS) (G : av_G NS tabON A s s.heap) (hr : meth.sig.returnType = some .int) (fu : Nat) {r : Int32 × List va_E} : ∀ (n : Nat) (v0 : Nat) (v1 : Int32) (v2 : Int32) (v3 : Int32) (w : List va_E), f_X_countUpTo_4 fu n v0 v1 v2 v3 w = some r → av_VI p l e rm_X_countUpTo s m args below meth c D cl8 A ad ca 4 r 4 [some (.ref v0), some (.int v1), some (.int v2), some (.int v3)] [] w := by
  intro n
  induction n with
  | zero => intro _ _ _ _ _ h; cases h
  | succ n ih =>
    intro v0 v1 v2 v3 w h
    unfold f_X_countUpTo_4 at h
    refine av_iload_n K d_X_countUpTo_4 rfl rfl ?_
    refine av_aload_n K d_X_countUpTo_5 rfl rfl ?_
    obtain ⟨x1, ex1, h⟩ := hp_bd h
    refine hv_gi K fl_X_24 d_X_countUpTo_6 ex1 ?_
    refine av_icmp_ge (tgt := 34) K d_X_countUpTo_9 rfl (fun hc => ?_) (fun hc => ?_)
    · rw [if_pos hc] at h
      refine av_iload_n K d_X_countUpTo_34 rfl rfl ?_
      obtain rfl := Option.some.inj h
      exact av_ireturn K hr d_X_countUpTo_35 rfl
    · rw [if_neg hc] at h
      refine av_aload_n K d_X_countUpTo_12 rfl rfl ?_
      obtain ⟨q2, eq2, h⟩ := hp_bd h
      refine hv_gr K fl_X_9 d_X_countUpTo_13 eq2 ?_
      refine av_iload_n K d_X_countUpTo_16 rfl rfl ?_
      obtain ⟨x3, ex3, h⟩ := hp_bd h
      refine hv_ri K d_X_countUpTo_17 ex3 ?_
      refine av_bipush (v := (20 : Int32)) K d_X_countUpTo_18 (by decide) ?_
      refine av_ishr K d_X_countUpTo_20 ?_
      refine av_iload_n K d_X_countUpTo_21 rfl rfl ?_
      refine av_icmp_gt (tgt := 28) K d_X_countUpTo_22 rfl (fun hc => ?_) (fun hc => ?_)
      · rw [if_pos hc] at h
        exact v_X_countUpTo_28 K G hr fu (f_X_countUpTo_4 fu n) ih (v0) (v1) (v2) (v3) _ h
      · rw [if_neg hc] at h
        refine av_iinc (v := (v2 + (1 : Int32))) (L' := [some (.ref v0), some (.int v1), some (.int (v2 + (1 : Int32))), some (.int v3)]) K d_X_countUpTo_25 rfl (congrArg (fun z => v2 + z) (show Int32.ofInt 1 = (1 : Int32) by decide)) (Nat.le_of_ble_eq_true rfl) rfl ?_
        exact v_X_countUpTo_28 K G hr fu (f_X_countUpTo_4 fu n) ih (v0) (v1) ((v2 + (1 : Int32))) (v3) _ h
set_option maxRecDepth 100000 in
set_option maxHeartbeats 4000000 in
theorem v_X_countUpTo (K : av_K p s m args meth c D cl8 ca A b_X_countUpTo 4 R_X WS) (G : av_G NS tabON A s s.heap) (hr : meth.sig.returnType = some .int) (fu : Nat) {r : Int32 × List va_E} (v0 : Nat) (v1 : Int32) (w : List va_E) (h : f_X_countUpTo fu v0 v1 w = some r) : av_VI p l e rm_X_countUpTo s m args below meth c D cl8 A ad ca 4 r 0 [some (.ref v0), some (.int v1), none, none] [] w := by
  unfold f_X_countUpTo at h
  refine av_iconst (v := (0 : Int32)) K d_X_countUpTo_0 (by decide) ?_
  refine av_istore_n (L' := [some (.ref v0), some (.int v1), some (.int (0 : Int32)), none]) K d_X_countUpTo_1 rfl (Nat.le_of_ble_eq_true rfl) rfl ?_
  refine av_iconst (v := (0 : Int32)) K d_X_countUpTo_2 (by decide) ?_
  refine av_istore_n (L' := [some (.ref v0), some (.int v1), some (.int (0 : Int32)), some (.int (0 : Int32))]) K d_X_countUpTo_3 rfl (Nat.le_of_ble_eq_true rfl) rfl ?_
  exact v_X_countUpTo_4 K G hr fu fu (v0) (v1) ((0 : Int32)) ((0 : Int32)) _ h
end
set_option maxRecDepth 100000 in
theorem c_X_countUpTo {l : Launch} {D : va_G} {ca : Nat → Nat} {tab : Nat → Int64} {fu : Nat} {v0 : Nat} {v1 : Int32} {w : List va_E} {r : Int32 × List va_E} (h : f_X_countUpTo fu v0 v1 w = some r) : av_Ci l D cl8 ca NS tabON y_X_countUpTo w_X_countUpTo rm_X_countUpTo [.ref v0, .int v1] w (fun v u => (v, u) = r) :=
  av_inI (cc := b_X_countUpTo) (nL := 4) (by decide +kernel) rfl (Nat.le_of_ble_eq_true rfl) (fun p e s m args below meth c A ad K G hr => v_X_countUpTo K G hr fu v0 v1 w h)

-- FaultTreeDesk$Terms.countWith(I)I
theorem d_X_countWith_0 : decode b_X_countWith 0 = .ok (.iconst 0, 1) := by decide +kernel
theorem d_X_countWith_1 : decode b_X_countWith 1 = .ok (.istore_n 2, 1) := by decide +kernel
theorem d_X_countWith_2 : decode b_X_countWith 2 = .ok (.iconst 0, 1) := by decide +kernel
theorem d_X_countWith_3 : decode b_X_countWith 3 = .ok (.istore_n 3, 1) := by decide +kernel
theorem d_X_countWith_4 : decode b_X_countWith 4 = .ok (.iload_n 3, 1) := by decide +kernel
theorem d_X_countWith_5 : decode b_X_countWith 5 = .ok (.aload_n 0, 1) := by decide +kernel
theorem d_X_countWith_6 : decode b_X_countWith 6 = .ok (.getfield 24, 3) := by decide +kernel
theorem d_X_countWith_9 : decode b_X_countWith 9 = .ok (.if_icmp .ge 30, 3) := by decide +kernel
theorem d_X_countWith_12 : decode b_X_countWith 12 = .ok (.aload_n 0, 1) := by decide +kernel
theorem d_X_countWith_13 : decode b_X_countWith 13 = .ok (.iload_n 3, 1) := by decide +kernel
theorem d_X_countWith_14 : decode b_X_countWith 14 = .ok (.invokevirtual 44, 3) := by decide +kernel
theorem d_X_countWith_17 : decode b_X_countWith 17 = .ok (.aload_n 0, 1) := by decide +kernel
theorem d_X_countWith_18 : decode b_X_countWith 18 = .ok (.iload_n 3, 1) := by decide +kernel
theorem d_X_countWith_19 : decode b_X_countWith 19 = .ok (.invokevirtual 48, 3) := by decide +kernel
theorem d_X_countWith_22 : decode b_X_countWith 22 = .ok (.ior, 1) := by decide +kernel
theorem d_X_countWith_23 : decode b_X_countWith 23 = .ok (.iload_n 1, 1) := by decide +kernel
theorem d_X_countWith_24 : decode b_X_countWith 24 = .ok (.ishr, 1) := by decide +kernel
theorem d_X_countWith_25 : decode b_X_countWith 25 = .ok (.iconst 1, 1) := by decide +kernel
theorem d_X_countWith_26 : decode b_X_countWith 26 = .ok (.iand, 1) := by decide +kernel
theorem d_X_countWith_27 : decode b_X_countWith 27 = .ok (.ifCond .eq 6, 3) := by decide +kernel
theorem d_X_countWith_30 : decode b_X_countWith 30 = .ok (.iinc 2 1, 3) := by decide +kernel
theorem d_X_countWith_33 : decode b_X_countWith 33 = .ok (.iinc 3 1, 3) := by decide +kernel
theorem d_X_countWith_36 : decode b_X_countWith 36 = .ok (.goto (-32), 3) := by decide +kernel
theorem d_X_countWith_39 : decode b_X_countWith 39 = .ok (.iload_n 2, 1) := by decide +kernel
theorem d_X_countWith_40 : decode b_X_countWith 40 = .ok (.ireturn, 1) := by decide +kernel
def rm_X_countWith : Room := { frames := 1, cells := 0, slots := 0, locals := 21 }
def f_X_countWith_33 (fu : Nat) (k4 : Nat → Int32 → Int32 → Int32 → List va_E → Option (Int32 × List va_E)) (v0 : Nat) (v1 : Int32) (v2 : Int32) (v3 : Int32) (w : List va_E) : Option (Int32 × List va_E) := (k4 (v0) (v1) (v2) ((v3 + (1 : Int32))) w)
def f_X_countWith_4 (fu : Nat) : Nat → Nat → Int32 → Int32 → Int32 → List va_E → Option (Int32 × List va_E)
  | 0, _, _, _, _, _ => none
  | n + 1, v0, v1, v2, v3, w => ((hp_gi w v0 4 3).bind fun x1 => (if x1 ≤ v3 then (some (v2, w)) else ((hp_is w v0 4).bind fun _ => ((f_X_onOf fu v0 v3 w).bind fun r2 => ((hp_is r2.2 v0 4).bind fun _ => ((f_X_offOf fu v0 v3 r2.2).bind fun r3 => (if (((r2.1 ||| r3.1) >>> (v1 &&& 31)) &&& (1 : Int32)) = 0 then (f_X_countWith_33 fu (f_X_countWith_4 fu n) (v0) (v1) (v2) (v3) r3.2) else (f_X_countWith_33 fu (f_X_countWith_4 fu n) (v0) (v1) ((v2 + (1 : Int32))) (v3) r3.2))))))))
def f_X_countWith (fu : Nat) (v0 : Nat) (v1 : Int32) (w : List va_E) : Option (Int32 × List va_E) := (f_X_countWith_4 fu fu (v0) (v1) ((0 : Int32)) ((0 : Int32)) w)
section
variable {p : Program} {l : Launch} {e : Env} {s : State} {m : MethodId} {args : Array Value} {below : List Frame} {meth : Method} {c : Code} {D : va_G} {ca : Nat → Nat} {A : Nat → Prop} {ad : Nat → Nat}
set_option maxRecDepth 100000 in
set_option maxHeartbeats 4000000 in
theorem v_X_countWith_33 (K : av_K p s m args meth c D cl8 ca A b_X_countWith 4 R_X WS) (G : av_G NS tabON A s s.heap) (hr : meth.sig.returnType = some .int) (fu : Nat) {r : Int32 × List va_E} (k4 : Nat → Int32 → Int32 → Int32 → List va_E → Option (Int32 × List va_E)) (hk4 : ∀ (v0 : Nat) (v1 : Int32) (v2 : Int32) (v3 : Int32) (w : List va_E), k4 v0 v1 v2 v3 w = some r → av_VI p l e rm_X_countWith s m args below meth c D cl8 A ad ca 4 r 4 [some (.ref v0), some (.int v1), some (.int v2), some (.int v3)] [] w) (v0 : Nat) (v1 : Int32) (v2 : Int32) (v3 : Int32) (w : List va_E) (h : f_X_countWith_33 fu k4 v0 v1 v2 v3 w = some r) : av_VI p l e rm_X_countWith s m args below meth c D cl8 A ad ca 4 r 33 [some (.ref v0), some (.int v1), some (.int v2), some (.int v3)] [] w := by
  unfold f_X_countWith_33 at h
  refine av_iinc (v := (v3 + (1 : Int32))) (L' := [some (.ref v0), some (.int v1), some (.int v2), some (.int (v3 + (1 : Int32)))]) K d_X_countWith_33 rfl (congrArg (fun z => v3 + z) (show Int32.ofInt 1 = (1 : Int32) by decide)) (Nat.le_of_ble_eq_true rfl) rfl ?_
  refine av_goto (tgt := 4) K d_X_countWith_36 rfl ?_
  exact hk4 (v0) (v1) (v2) ((v3 + (1 : Int32))) _ h
set_option maxRecDepth 100000 in
set_option maxHeartbeats 4000000 in
theorem v_X_countWith_4 (K : av_K p s m args meth c D cl8 ca A b_X_countWith 4 R_X WS) (G : av_G NS tabON A s s.heap) (hr : meth.sig.returnType = some .int) (fu : Nat) {r : Int32 × List va_E} : ∀ (n : Nat) (v0 : Nat) (v1 : Int32) (v2 : Int32) (v3 : Int32) (w : List va_E), f_X_countWith_4 fu n v0 v1 v2 v3 w = some r → av_VI p l e rm_X_countWith s m args below meth c D cl8 A ad ca 4 r 4 [some (.ref v0), some (.int v1), some (.int v2), some (.int v3)] [] w := by
  intro n
  induction n with
  | zero => intro _ _ _ _ _ h; cases h
  | succ n ih =>
    intro v0 v1 v2 v3 w h
    unfold f_X_countWith_4 at h
    refine av_iload_n K d_X_countWith_4 rfl rfl ?_
    refine av_aload_n K d_X_countWith_5 rfl rfl ?_
    obtain ⟨x1, ex1, h⟩ := hp_bd h
    refine hv_gi K fl_X_24 d_X_countWith_6 ex1 ?_
    refine av_icmp_ge (tgt := 39) K d_X_countWith_9 rfl (fun hc => ?_) (fun hc => ?_)
    · rw [if_pos hc] at h
      refine av_iload_n K d_X_countWith_39 rfl rfl ?_
      obtain rfl := Option.some.inj h
      exact av_ireturn K hr d_X_countWith_40 rfl
    · rw [if_neg hc] at h
      refine av_aload_n K d_X_countWith_12 rfl rfl ?_
      refine av_iload_n K d_X_countWith_13 rfl rfl ?_
      obtain ⟨_, eo14, h⟩ := hp_bd h
      obtain ⟨r2, er2, h⟩ := hp_bd h
      obtain ⟨fs14, ho14⟩ := hp_is_of eo14
      refine av_cVi K G (c_X_onOf (tab := tabON) er2) (cwV 1 K.2.2.2.2.1 (gV ml_X_44 im_X_onOf se_X_onOf in_X co_X_onOf) rfl rfl rfl cd_X_onOf ⟨Nat.le_of_ble_eq_true rfl, Nat.le_of_ble_eq_true rfl⟩) rfl ho14 rfl rfl (Nat.le_of_ble_eq_true rfl) d_X_countWith_14 ⟨Nat.zero_le _, Nat.zero_le _⟩ (fun a9 u9 h9 => ?_)
      obtain ⟨rfl, rfl⟩ : a9 = r2.1 ∧ u9 = r2.2 := ⟨congrArg Prod.fst h9, congrArg Prod.snd h9⟩
      refine av_aload_n K d_X_countWith_17 rfl rfl ?_
      refine av_iload_n K d_X_countWith_18 rfl rfl ?_
      obtain ⟨_, eo19, h⟩ := hp_bd h
      obtain ⟨r3, er3, h⟩ := hp_bd h
      obtain ⟨fs19, ho19⟩ := hp_is_of eo19
      refine av_cVi K G (c_X_offOf (tab := tabON) er3) (cwV 1 K.2.2.2.2.1 (gV ml_X_48 im_X_offOf se_X_offOf in_X co_X_offOf) rfl rfl rfl cd_X_offOf ⟨Nat.le_of_ble_eq_true rfl, Nat.le_of_ble_eq_true rfl⟩) rfl ho19 rfl rfl (Nat.le_of_ble_eq_true rfl) d_X_countWith_19 ⟨Nat.zero_le _, Nat.zero_le _⟩ (fun a9 u9 h9 => ?_)
      obtain ⟨rfl, rfl⟩ : a9 = r3.1 ∧ u9 = r3.2 := ⟨congrArg Prod.fst h9, congrArg Prod.snd h9⟩
      refine av_ior K d_X_countWith_22 ?_
      refine av_iload_n K d_X_countWith_23 rfl rfl ?_
      refine av_ishr K d_X_countWith_24 ?_
      refine av_iconst (v := (1 : Int32)) K d_X_countWith_25 (by decide) ?_
      refine av_iand K d_X_countWith_26 ?_
      refine av_if_eq (tgt := 33) K d_X_countWith_27 rfl (fun hc => ?_) (fun hc => ?_)
      · rw [if_pos hc] at h
        exact v_X_countWith_33 K G hr fu (f_X_countWith_4 fu n) ih (v0) (v1) (v2) (v3) _ h
      · rw [if_neg hc] at h
        refine av_iinc (v := (v2 + (1 : Int32))) (L' := [some (.ref v0), some (.int v1), some (.int (v2 + (1 : Int32))), some (.int v3)]) K d_X_countWith_30 rfl (congrArg (fun z => v2 + z) (show Int32.ofInt 1 = (1 : Int32) by decide)) (Nat.le_of_ble_eq_true rfl) rfl ?_
        exact v_X_countWith_33 K G hr fu (f_X_countWith_4 fu n) ih (v0) (v1) ((v2 + (1 : Int32))) (v3) _ h
set_option maxRecDepth 100000 in
set_option maxHeartbeats 4000000 in
theorem v_X_countWith (K : av_K p s m args meth c D cl8 ca A b_X_countWith 4 R_X WS) (G : av_G NS tabON A s s.heap) (hr : meth.sig.returnType = some .int) (fu : Nat) {r : Int32 × List va_E} (v0 : Nat) (v1 : Int32) (w : List va_E) (h : f_X_countWith fu v0 v1 w = some r) : av_VI p l e rm_X_countWith s m args below meth c D cl8 A ad ca 4 r 0 [some (.ref v0), some (.int v1), none, none] [] w := by
  unfold f_X_countWith at h
  refine av_iconst (v := (0 : Int32)) K d_X_countWith_0 (by decide) ?_
  refine av_istore_n (L' := [some (.ref v0), some (.int v1), some (.int (0 : Int32)), none]) K d_X_countWith_1 rfl (Nat.le_of_ble_eq_true rfl) rfl ?_
  refine av_iconst (v := (0 : Int32)) K d_X_countWith_2 (by decide) ?_
  refine av_istore_n (L' := [some (.ref v0), some (.int v1), some (.int (0 : Int32)), some (.int (0 : Int32))]) K d_X_countWith_3 rfl (Nat.le_of_ble_eq_true rfl) rfl ?_
  exact v_X_countWith_4 K G hr fu fu (v0) (v1) ((0 : Int32)) ((0 : Int32)) _ h
end
set_option maxRecDepth 100000 in
theorem c_X_countWith {l : Launch} {D : va_G} {ca : Nat → Nat} {tab : Nat → Int64} {fu : Nat} {v0 : Nat} {v1 : Int32} {w : List va_E} {r : Int32 × List va_E} (h : f_X_countWith fu v0 v1 w = some r) : av_Ci l D cl8 ca NS tabON y_X_countWith w_X_countWith rm_X_countWith [.ref v0, .int v1] w (fun v u => (v, u) = r) :=
  av_inI (cc := b_X_countWith) (nL := 4) (by decide +kernel) rfl (Nat.le_of_ble_eq_true rfl) (fun p e s m args below meth c A ad K G hr => v_X_countWith K G hr fu v0 v1 w h)
