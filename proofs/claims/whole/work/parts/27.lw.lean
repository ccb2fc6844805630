def R_law : String := "FaultTreeDeskLaw"
def lw_P (b : Addr) (xs : List Int32) (args : Array Value) (s : State) : Prop := args = #[.ref b] ∧ s.IntsAt b xs ∧ xs.length ≤ 1536 ∧ (Jvm.Cond.and given_1 narrow_1).before args s = true
def lw_Q (_ : Array Value) (s : State) (o : Outcome) (t : State) : Prop := o = .returned (some (.int 1)) ∧ Framed s o t [] 601024 7293034
def lw_Z (below : List Frame) (a : Array Value) (s : State) : State → Prop := fun t => ∃ o, t.status = .running ∧ Ended t below o ∧ lw_Q a s o t
/-- the law's own end, with 1 on the stack, nothing written that was there before, its room as the claim has it -/
theorem lw_ret {p : Program} {l : Launch} {e : Env} {s : State} {m : MethodId} {below : List Frame} {meth : Method} {c : Code} {b : Nat} (hx : p.tables.exec = Jvm.exec) (hb : c.code = code) (hr : meth.sig.returnType = ret) (hlocks : meth.locks = false) {pc : Nat} {H : Heap} {ls : Array Slot} (hdg : decode code pc = .ok (.ireturn, 1)) : W p l e room_1 s m #[Value.ref b] below meth c H [] 601024 7293034 (lw_Z below #[Value.ref b] s) (F0 m pc ls [.int 1]) := by
  intro T hT X
  obtain ⟨fs, hret, hrun, hended, hW, hframe⟩ := X.leave (v := some (.int 1)) (hlocks := hlocks) (fun h => by rw [hr] at h; cases h)
  have hmeth' : T.vm.method? m = some meth := X.method'
  refine ⟨T.setFrames fs, ?_, .returned (some (.int 1)), hrun, hended, rfl, ⟨_, rfl⟩, hW, hframe⟩
  jvm_step X.here [X.here.top, hx, hb, hdg, hmeth', hr, ret, narrow_b1]
  (try refine ⟨rfl, ?_⟩); (try refine ⟨rfl, ?_⟩)
  first | (intro acts; rw [hret _ acts rfl rfl rfl]) | rw [hret _ _ rfl rfl rfl]
  exact Steps.refl _
/-- what holds at the law's entry: the machine, the code, the tables' words (any of lw_tbl by 'hts w (by decide +kernel)'), the script of L ints xs at the cell b, what the Statement gives of the start (any of its parts by flat_of_before) -/
def lw_At (p : Program) (s : State) (m : MethodId) (meth : Method) (c : Code) (b L : Nat) (xs : Nat → Int32) : Prop :=
  p.tables.exec = Jvm.exec ∧ c.code = code ∧ meth.sig.returnType = ret ∧ c.maxLocals = 8 ∧ s.vm.findClass R_law = some m.cls ∧ (∀ w ∈ lw_tbl, w.before #[Value.ref b] s = true) ∧ va_X b L xs s s.heap ∧ b < s.heap.size ∧ meth.locks = false ∧ (Jvm.Cond.and given_1 narrow_1).before #[Value.ref b] s = true
/-- the law's end -/
theorem av_lend {l : Launch} {D : va_G} {cl : List vw_C} {ca : Nat → Nat} {p : Program} {e : Env} {s : State} {m : MethodId} {below : List Frame} {meth : Method} {c : Code} {cells slots sc : Nat} {A : Nat → Prop} {ad : Nat → Nat} {own : String} {Ts : List Cond} {pc : Nat} {L : List (Option Value)} {w : List va_E} (K : av_K p s m #[Value.ref sc] meth c D cl ca A code 8 own Ts) (hr : meth.sig.returnType = ret) (hA : ∀ q, A q → s.heap.size ≤ q) (hd : decode code pc = .ok (.ireturn, 1)) (h1 : cells ≤ 601024) (h2 : slots ≤ 7293034) : av_V p l e room_1 s m #[Value.ref sc] below meth c D cl A ad ca 8 (lw_Z below #[Value.ref sc] s) cells slots pc L [.int 1] w :=
  fun H locs ls hP hD hS hL => va_forget (fun q hq => hA _ (hS.2.2 q hq)) (W.widen h1 h2 (lw_ret K.1 K.2.1 hr K.2.2.2.2.2.2.2 hd))
def f_L_law_961 (fu : Nat) (xs : Nat → Int32) (Ln : Nat) (k23 : Nat → Nat → Nat → Int32 → List va_E → Option Unit) (v1 : Nat) (v2 : Nat) (v3 : Nat) (v4 : Int32) (w : List va_E) : Option Unit := (k23 (v1) (v2) (v3) ((v4 + (3 : Int32))) w)
def f_L_law_579 (fu : Nat) (xs : Nat → Int32) (Ln : Nat) (k23 : Nat → Nat → Nat → Int32 → List va_E → Option Unit) (v1 : Nat) (v2 : Nat) (v3 : Nat) (v4 : Int32) (w : List va_E) : Option Unit := (f_L_law_961 fu xs Ln k23 (v1) (v2) (v3) (v4) w)
def f_L_law_165 (fu : Nat) (xs : Nat → Int32) (Ln : Nat) (k23 : Nat → Nat → Nat → Int32 → List va_E → Option Unit) (v1 : Nat) (v2 : Nat) (v3 : Nat) (v4 : Int32) (w : List va_E) : Option Unit := (f_L_law_961 fu xs Ln k23 (v1) (v2) (v3) (v4) w)
def f_L_law_233 (fu : Nat) (xs : Nat → Int32) (Ln : Nat) (k23 : Nat → Nat → Nat → Int32 → List va_E → Option Unit) (v1 : Nat) (v2 : Nat) (v3 : Nat) (v4 : Int32) (w : List va_E) : Option Unit := (f_L_law_961 fu xs Ln k23 (v1) (v2) (v3) (v4) w)
def f_L_law_734 (fu : Nat) (xs : Nat → Int32) (Ln : Nat) (k23 : Nat → Nat → Nat → Int32 → List va_E → Option Unit) (v1 : Nat) (v2 : Nat) (v3 : Nat) (v4 : Int32) (w : List va_E) : Option Unit := (f_L_law_961 fu xs Ln k23 (v1) (v2) (v3) (v4) w)
def f_L_law_301 (fu : Nat) (xs : Nat → Int32) (Ln : Nat) (k23 : Nat → Nat → Nat → Int32 → List va_E → Option Unit) (v1 : Nat) (v2 : Nat) (v3 : Nat) (v4 : Int32) (w : List va_E) : Option Unit := (f_L_law_961 fu xs Ln k23 (v1) (v2) (v3) (v4) w)
def f_L_law_369 (fu : Nat) (xs : Nat → Int32) (Ln : Nat) (k23 : Nat → Nat → Nat → Int32 → List va_E → Option Unit) (v1 : Nat) (v2 : Nat) (v3 : Nat) (v4 : Int32) (w : List va_E) : Option Unit := (f_L_law_961 fu xs Ln k23 (v1) (v2) (v3) (v4) w)
def f_L_law_914 (fu : Nat) (xs : Nat → Int32) (Ln : Nat) (k23 : Nat → Nat → Nat → Int32 → List va_E → Option Unit) (v1 : Nat) (v2 : Nat) (v3 : Nat) (v4 : Int32) (w : List va_E) : Option Unit := (f_L_law_961 fu xs Ln k23 (v1) (v2) (v3) (v4) w)
def f_L_law_690 (fu : Nat) (xs : Nat → Int32) (Ln : Nat) (k23 : Nat → Nat → Nat → Int32 → List va_E → Option Unit) (v1 : Nat) (v2 : Nat) (v3 : Nat) (v4 : Int32) (w : List va_E) : Option Unit := (f_L_law_961 fu xs Ln k23 (v1) (v2) (v3) (v4) w)
def f_L_law_536 (fu : Nat) (xs : Nat → Int32) (Ln : Nat) (k23 : Nat → Nat → Nat → Int32 → List va_E → Option Unit) (v1 : Nat) (v2 : Nat) (v3 : Nat) (v4 : Int32) (w : List va_E) : Option Unit := (f_L_law_961 fu xs Ln k23 (v1) (v2) (v3) (v4) w)
def f_L_law_530 (fu : Nat) (xs : Nat → Int32) (Ln : Nat) (k23 : Nat → Nat → Nat → Int32 → List va_E → Option Unit) (v1 : Nat) (v2 : Nat) (v3 : Nat) (v4 : Int32) (s0 : Int64) (s1 : Int64) (w : List va_E) : Option Unit := (if (lg_cmp s0 s1) = 0 then (f_L_law_536 fu xs Ln k23 (v1) (v2) (v3) (v4) w) else (if (0 : Int32) = 1 then some () else none))
def f_L_law_437 (fu : Nat) (xs : Nat → Int32) (Ln : Nat) (k23 : Nat → Nat → Nat → Int32 → List va_E → Option Unit) (v1 : Nat) (v2 : Nat) (v3 : Nat) (v4 : Int32) (w : List va_E) : Option Unit := (f_L_law_961 fu xs Ln k23 (v1) (v2) (v3) (v4) w)
def f_L_law_790 (fu : Nat) (xs : Nat → Int32) (Ln : Nat) (k23 : Nat → Nat → Nat → Int32 → List va_E → Option Unit) (v1 : Nat) (v2 : Nat) (v3 : Nat) (v4 : Int32) (w : List va_E) : Option Unit := (f_L_law_961 fu xs Ln k23 (v1) (v2) (v3) (v4) w)
def f_L_law_858 (fu : Nat) (xs : Nat → Int32) (Ln : Nat) (k23 : Nat → Nat → Nat → Int32 → List va_E → Option Unit) (v1 : Nat) (v2 : Nat) (v3 : Nat) (v4 : Int32) (w : List va_E) : Option Unit := (f_L_law_961 fu xs Ln k23 (v1) (v2) (v3) (v4) w)
def f_L_law_635 (fu : Nat) (xs : Nat → Int32) (Ln : Nat) (k23 : Nat → Nat → Nat → Int32 → List va_E → Option Unit) (v1 : Nat) (v2 : Nat) (v3 : Nat) (v4 : Int32) (w : List va_E) : Option Unit := (f_L_law_961 fu xs Ln k23 (v1) (v2) (v3) (v4) w)
def f_L_law_958 (fu : Nat) (xs : Nat → Int32) (Ln : Nat) (k23 : Nat → Nat → Nat → Int32 → List va_E → Option Unit) (v1 : Nat) (v2 : Nat) (v3 : Nat) (v4 : Int32) (w : List va_E) : Option Unit := (f_L_law_961 fu xs Ln k23 (v1) (v2) (v3) (v4) w)
def f_L_law_23 (fu : Nat) (xs : Nat → Int32) (Ln : Nat) : Nat → Nat → Nat → Nat → Int32 → List va_E → Option Unit
  | 0, _, _, _, _, _ => none
  | n + 1, v1, v2, v3, v4, w => (if ((Int32.ofNat Ln) - (3 : Int32)) < v4 then (if (1 : Int32) = 1 then some () else none) else (if ¬ (v4 < 0 ∨ Ln ≤ (v4).toNatClampNeg) then (if ((xs (v4).toNatClampNeg) &&& (15 : Int32)) = (0 : Int32) then (if ¬ ((v4 + (1 : Int32)) < 0 ∨ Ln ≤ ((v4 + (1 : Int32))).toNatClampNeg) then ((f_L_event fu v1 (xs ((v4 + (1 : Int32))).toNatClampNeg) v3 w).bind fun r1 => (if ¬ ((v4 + (1 : Int32)) < 0 ∨ Ln ≤ ((v4 + (1 : Int32))).toNatClampNeg) then ((hp_is r1.2 v2 7).bind fun _ => ((f_M_event fu v2 (xs ((v4 + (1 : Int32))).toNatClampNeg) r1.2).bind fun r2 => ((hp_is r2.2 v2 7).bind fun _ => ((f_M_thrown fu v2 r2.2).bind fun r3 => (if r3.1 = r1.1 then (if r1.1 = 0 then ((hp_rl r3.2 v3 (0 : Int32)).bind fun y4 => (if (lg_cmp y4 (r2.1).toInt64) = 0 then (f_L_law_165 fu xs Ln (f_L_law_23 fu xs Ln n) (v1) (v2) (v3) (v4) r3.2) else (if (0 : Int32) = 1 then some () else none))) else (f_L_law_165 fu xs Ln (f_L_law_23 fu xs Ln n) (v1) (v2) (v3) (v4) r3.2)) else (if (0 : Int32) = 1 then some () else none)))))) else none)) else none) else (if ((xs (v4).toNatClampNeg) &&& (15 : Int32)) = (1 : Int32) then (if ¬ ((v4 + (1 : Int32)) < 0 ∨ Ln ≤ ((v4 + (1 : Int32))).toNatClampNeg) then (if ¬ ((v4 + (2 : Int32)) < 0 ∨ Ln ≤ ((v4 + (2 : Int32))).toNatClampNeg) then ((f_L_chance fu v1 (xs ((v4 + (1 : Int32))).toNatClampNeg) (xs ((v4 + (2 : Int32))).toNatClampNeg) v3 w).bind fun r5 => (if ¬ ((v4 + (1 : Int32)) < 0 ∨ Ln ≤ ((v4 + (1 : Int32))).toNatClampNeg) then (if ¬ ((v4 + (2 : Int32)) < 0 ∨ Ln ≤ ((v4 + (2 : Int32))).toNatClampNeg) then ((hp_is r5.2 v2 7).bind fun _ => ((f_M_chance fu v2 (xs ((v4 + (1 : Int32))).toNatClampNeg) (xs ((v4 + (2 : Int32))).toNatClampNeg) r5.2).bind fun r6 => ((hp_is r6.2 v2 7).bind fun _ => ((f_M_thrown fu v2 r6.2).bind fun r7 => (if r7.1 = r5.1 then (if r5.1 = 0 then ((hp_rl r7.2 v3 (0 : Int32)).bind fun y8 => (if (lg_cmp y8 (r6.1).toInt64) = 0 then (f_L_law_233 fu xs Ln (f_L_law_23 fu xs Ln n) (v1) (v2) (v3) (v4) r7.2) else (if (0 : Int32) = 1 then some () else none))) else (f_L_law_233 fu xs Ln (f_L_law_23 fu xs Ln n) (v1) (v2) (v3) (v4) r7.2)) else (if (0 : Int32) = 1 then some () else none)))))) else none) else none)) else none) else none) else (if ((xs (v4).toNatClampNeg) &&& (15 : Int32)) = (2 : Int32) then (if ¬ ((v4 + (1 : Int32)) < 0 ∨ Ln ≤ ((v4 + (1 : Int32))).toNatClampNeg) then (if ¬ ((v4 + (2 : Int32)) < 0 ∨ Ln ≤ ((v4 + (2 : Int32))).toNatClampNeg) then ((f_L_hold fu v1 (xs ((v4 + (1 : Int32))).toNatClampNeg) (xs ((v4 + (2 : Int32))).toNatClampNeg) v3 w).bind fun r9 => (if ¬ ((v4 + (1 : Int32)) < 0 ∨ Ln ≤ ((v4 + (1 : Int32))).toNatClampNeg) then (if ¬ ((v4 + (2 : Int32)) < 0 ∨ Ln ≤ ((v4 + (2 : Int32))).toNatClampNeg) then ((hp_is r9.2 v2 7).bind fun _ => ((f_M_hold fu v2 (xs ((v4 + (1 : Int32))).toNatClampNeg) (xs ((v4 + (2 : Int32))).toNatClampNeg) r9.2).bind fun r10 => ((hp_is r10.2 v2 7).bind fun _ => ((f_M_thrown fu v2 r10.2).bind fun r11 => (if r11.1 = r9.1 then (if r9.1 = 0 then ((hp_rl r11.2 v3 (0 : Int32)).bind fun y12 => (if (lg_cmp y12 (r10.1).toInt64) = 0 then (f_L_law_301 fu xs Ln (f_L_law_23 fu xs Ln n) (v1) (v2) (v3) (v4) r11.2) else (if (0 : Int32) = 1 then some () else none))) else (f_L_law_301 fu xs Ln (f_L_law_23 fu xs Ln n) (v1) (v2) (v3) (v4) r11.2)) else (if (0 : Int32) = 1 then some () else none)))))) else none) else none)) else none) else none) else (if ((xs (v4).toNatClampNeg) &&& (15 : Int32)) = (3 : Int32) then (if ¬ ((v4 + (1 : Int32)) < 0 ∨ Ln ≤ ((v4 + (1 : Int32))).toNatClampNeg) then (if ¬ ((v4 + (2 : Int32)) < 0 ∨ Ln ≤ ((v4 + (2 : Int32))).toNatClampNeg) then ((f_L_gate fu v1 (xs ((v4 + (1 : Int32))).toNatClampNeg) (xs ((v4 + (2 : Int32))).toNatClampNeg) v3 w).bind fun r13 => (if ¬ ((v4 + (1 : Int32)) < 0 ∨ Ln ≤ ((v4 + (1 : Int32))).toNatClampNeg) then (if ¬ ((v4 + (2 : Int32)) < 0 ∨ Ln ≤ ((v4 + (2 : Int32))).toNatClampNeg) then ((hp_is r13.2 v2 7).bind fun _ => ((f_M_gate fu v2 (xs ((v4 + (1 : Int32))).toNatClampNeg) (xs ((v4 + (2 : Int32))).toNatClampNeg) r13.2).bind fun r14 => ((hp_is r14.2 v2 7).bind fun _ => ((f_M_thrown fu v2 r14.2).bind fun r15 => (if r15.1 = r13.1 then (if r13.1 = 0 then ((hp_rl r15.2 v3 (0 : Int32)).bind fun y16 => (if (lg_cmp y16 (r14.1).toInt64) = 0 then (f_L_law_369 fu xs Ln (f_L_law_23 fu xs Ln n) (v1) (v2) (v3) (v4) r15.2) else (if (0 : Int32) = 1 then some () else none))) else (f_L_law_369 fu xs Ln (f_L_law_23 fu xs Ln n) (v1) (v2) (v3) (v4) r15.2)) else (if (0 : Int32) = 1 then some () else none)))))) else none) else none)) else none) else none) else (if ((xs (v4).toNatClampNeg) &&& (15 : Int32)) = (4 : Int32) then (if ¬ ((v4 + (1 : Int32)) < 0 ∨ Ln ≤ ((v4 + (1 : Int32))).toNatClampNeg) then (if ¬ ((v4 + (2 : Int32)) < 0 ∨ Ln ≤ ((v4 + (2 : Int32))).toNatClampNeg) then ((f_L_input fu v1 (xs ((v4 + (1 : Int32))).toNatClampNeg) (xs ((v4 + (2 : Int32))).toNatClampNeg) v3 w).bind fun r17 => (if ¬ ((v4 + (1 : Int32)) < 0 ∨ Ln ≤ ((v4 + (1 : Int32))).toNatClampNeg) then (if ¬ ((v4 + (2 : Int32)) < 0 ∨ Ln ≤ ((v4 + (2 : Int32))).toNatClampNeg) then ((hp_is r17.2 v2 7).bind fun _ => ((f_M_input fu v2 (xs ((v4 + (1 : Int32))).toNatClampNeg) (xs ((v4 + (2 : Int32))).toNatClampNeg) r17.2).bind fun r18 => ((hp_is r18.2 v2 7).bind fun _ => ((f_M_thrown fu v2 r18.2).bind fun r19 => (if r19.1 = r17.1 then (if r17.1 = 0 then ((hp_rl r19.2 v3 (0 : Int32)).bind fun y20 => (if (lg_cmp y20 (r18.1).toInt64) = 0 then (f_L_law_437 fu xs Ln (f_L_law_23 fu xs Ln n) (v1) (v2) (v3) (v4) r19.2) else (if (0 : Int32) = 1 then some () else none))) else (f_L_law_437 fu xs Ln (f_L_law_23 fu xs Ln n) (v1) (v2) (v3) (v4) r19.2)) else (if (0 : Int32) = 1 then some () else none)))))) else none) else none)) else none) else none) else (if ((xs (v4).toNatClampNeg) &&& (15 : Int32)) = (5 : Int32) then (if ¬ ((v4 + (1 : Int32)) < 0 ∨ Ln ≤ ((v4 + (1 : Int32))).toNatClampNeg) then ((f_L_top fu v1 (xs ((v4 + (1 : Int32))).toNatClampNeg) w).bind fun r21 => (if ¬ ((v4 + (1 : Int32)) < 0 ∨ Ln ≤ ((v4 + (1 : Int32))).toNatClampNeg) then ((hp_is r21.2 v2 7).bind fun _ => ((f_M_top fu v2 (xs ((v4 + (1 : Int32))).toNatClampNeg) r21.2).bind fun r22 => ((hp_is r22 v2 7).bind fun _ => ((f_M_thrown fu v2 r22).bind fun r23 => (if r23.1 = r21.1 then (f_L_law_961 fu xs Ln (f_L_law_23 fu xs Ln n) (v1) (v2) (v3) (v4) r23.2) else (if (0 : Int32) = 1 then some () else none)))))) else none)) else none) else (if ((xs (v4).toNatClampNeg) &&& (15 : Int32)) = (6 : Int32) then (if ¬ ((v4 + (1 : Int32)) < 0 ∨ Ln ≤ ((v4 + (1 : Int32))).toNatClampNeg) then ((f_L_value fu v1 (xs ((v4 + (1 : Int32))).toNatClampNeg) v3 w).bind fun r24 => (if ¬ ((v4 + (1 : Int32)) < 0 ∨ Ln ≤ ((v4 + (1 : Int32))).toNatClampNeg) then ((hp_is r24.2 v2 7).bind fun _ => ((f_M_value fu v2 (xs ((v4 + (1 : Int32))).toNatClampNeg) r24.2).bind fun r25 => ((hp_is r25.2 v2 7).bind fun _ => ((f_M_thrown fu v2 r25.2).bind fun r26 => (if r26.1 = r24.1 then (if r24.1 = 0 then ((hp_rl r26.2 v3 (0 : Int32)).bind fun y27 => (if r25.1 = 0 then (f_L_law_530 fu xs Ln (f_L_law_23 fu xs Ln n) (v1) (v2) (v3) (v4) (y27) ((0 : Int64)) r26.2) else (f_L_law_530 fu xs Ln (f_L_law_23 fu xs Ln n) (v1) (v2) (v3) (v4) (y27) ((1 : Int64)) r26.2))) else (f_L_law_536 fu xs Ln (f_L_law_23 fu xs Ln n) (v1) (v2) (v3) (v4) r26.2)) else (if (0 : Int32) = 1 then some () else none)))))) else none)) else none) else (if ((xs (v4).toNatClampNeg) &&& (15 : Int32)) = (7 : Int32) then ((f_L_odds fu v1 v3 w).bind fun r28 => ((hp_is r28.2 v2 7).bind fun _ => ((f_M_odds fu v2 r28.2).bind fun r29 => ((hp_is r29.2 v2 7).bind fun _ => ((f_M_thrown fu v2 r29.2).bind fun r30 => (if r30.1 = r28.1 then (if r28.1 = 0 then ((hp_rl r30.2 v3 (0 : Int32)).bind fun y31 => (if (lg_cmp y31 r29.1) = 0 then (f_L_law_579 fu xs Ln (f_L_law_23 fu xs Ln n) (v1) (v2) (v3) (v4) r30.2) else (if (0 : Int32) = 1 then some () else none))) else (f_L_law_579 fu xs Ln (f_L_law_23 fu xs Ln n) (v1) (v2) (v3) (v4) r30.2)) else (if (0 : Int32) = 1 then some () else none))))))) else (if ((xs (v4).toNatClampNeg) &&& (15 : Int32)) = (8 : Int32) then (if ¬ ((v4 + (1 : Int32)) < 0 ∨ Ln ≤ ((v4 + (1 : Int32))).toNatClampNeg) then ((f_L_digit fu v1 (xs ((v4 + (1 : Int32))).toNatClampNeg) v3 w).bind fun r32 => (if ¬ ((v4 + (1 : Int32)) < 0 ∨ Ln ≤ ((v4 + (1 : Int32))).toNatClampNeg) then ((hp_is r32.2 v2 7).bind fun _ => ((f_M_digit fu v2 (xs ((v4 + (1 : Int32))).toNatClampNeg) r32.2).bind fun r33 => ((hp_is r33.2 v2 7).bind fun _ => ((f_M_thrown fu v2 r33.2).bind fun r34 => (if r34.1 = r32.1 then (if r32.1 = 0 then ((hp_rl r34.2 v3 (0 : Int32)).bind fun y35 => (if (lg_cmp y35 (r33.1).toInt64) = 0 then (f_L_law_635 fu xs Ln (f_L_law_23 fu xs Ln n) (v1) (v2) (v3) (v4) r34.2) else (if (0 : Int32) = 1 then some () else none))) else (f_L_law_635 fu xs Ln (f_L_law_23 fu xs Ln n) (v1) (v2) (v3) (v4) r34.2)) else (if (0 : Int32) = 1 then some () else none)))))) else none)) else none) else (if ((xs (v4).toNatClampNeg) &&& (15 : Int32)) = (9 : Int32) then (if ¬ ((v4 + (1 : Int32)) < 0 ∨ Ln ≤ ((v4 + (1 : Int32))).toNatClampNeg) then ((f_L_weight fu v1 (xs ((v4 + (1 : Int32))).toNatClampNeg) v3 w).bind fun r36 => (if ¬ ((v4 + (1 : Int32)) < 0 ∨ Ln ≤ ((v4 + (1 : Int32))).toNatClampNeg) then ((hp_is r36.2 v2 7).bind fun _ => ((f_M_weight fu v2 (xs ((v4 + (1 : Int32))).toNatClampNeg) r36.2).bind fun r37 => ((hp_is r37.2 v2 7).bind fun _ => ((f_M_thrown fu v2 r37.2).bind fun r38 => (if r38.1 = r36.1 then (if r36.1 = 0 then ((hp_rl r38.2 v3 (0 : Int32)).bind fun y39 => (if (lg_cmp y39 r37.1) = 0 then (f_L_law_690 fu xs Ln (f_L_law_23 fu xs Ln n) (v1) (v2) (v3) (v4) r38.2) else (if (0 : Int32) = 1 then some () else none))) else (f_L_law_690 fu xs Ln (f_L_law_23 fu xs Ln n) (v1) (v2) (v3) (v4) r38.2)) else (if (0 : Int32) = 1 then some () else none)))))) else none)) else none) else (if ((xs (v4).toNatClampNeg) &&& (15 : Int32)) = (10 : Int32) then ((f_L_nodes fu v1 v3 w).bind fun r40 => ((hp_is r40.2 v2 7).bind fun _ => ((f_M_nodes fu v2 r40.2).bind fun r41 => ((hp_is r41.2 v2 7).bind fun _ => ((f_M_thrown fu v2 r41.2).bind fun r42 => (if r42.1 = r40.1 then (if r40.1 = 0 then ((hp_rl r42.2 v3 (0 : Int32)).bind fun y43 => (if (lg_cmp y43 (r41.1).toInt64) = 0 then (f_L_law_734 fu xs Ln (f_L_law_23 fu xs Ln n) (v1) (v2) (v3) (v4) r42.2) else (if (0 : Int32) = 1 then some () else none))) else (f_L_law_734 fu xs Ln (f_L_law_23 fu xs Ln n) (v1) (v2) (v3) (v4) r42.2)) else (if (0 : Int32) = 1 then some () else none))))))) else (if ((xs (v4).toNatClampNeg) &&& (15 : Int32)) = (11 : Int32) then (if ¬ ((v4 + (1 : Int32)) < 0 ∨ Ln ≤ ((v4 + (1 : Int32))).toNatClampNeg) then ((f_L_primes fu v1 (xs ((v4 + (1 : Int32))).toNatClampNeg) v3 w).bind fun r44 => (if ¬ ((v4 + (1 : Int32)) < 0 ∨ Ln ≤ ((v4 + (1 : Int32))).toNatClampNeg) then ((hp_is r44.2 v2 7).bind fun _ => ((f_M_primes fu v2 (xs ((v4 + (1 : Int32))).toNatClampNeg) r44.2).bind fun r45 => ((hp_is r45.2 v2 7).bind fun _ => ((f_M_thrown fu v2 r45.2).bind fun r46 => (if r46.1 = r44.1 then (if r44.1 = 0 then ((hp_rl r46.2 v3 (0 : Int32)).bind fun y47 => (if (lg_cmp y47 (r45.1).toInt64) = 0 then (f_L_law_790 fu xs Ln (f_L_law_23 fu xs Ln n) (v1) (v2) (v3) (v4) r46.2) else (if (0 : Int32) = 1 then some () else none))) else (f_L_law_790 fu xs Ln (f_L_law_23 fu xs Ln n) (v1) (v2) (v3) (v4) r46.2)) else (if (0 : Int32) = 1 then some () else none)))))) else none)) else none) else (if ((xs (v4).toNatClampNeg) &&& (15 : Int32)) = (12 : Int32) then (if ¬ ((v4 + (1 : Int32)) < 0 ∨ Ln ≤ ((v4 + (1 : Int32))).toNatClampNeg) then (if ¬ ((v4 + (2 : Int32)) < 0 ∨ Ln ≤ ((v4 + (2 : Int32))).toNatClampNeg) then ((f_L_prime fu v1 (xs ((v4 + (1 : Int32))).toNatClampNeg) (xs ((v4 + (2 : Int32))).toNatClampNeg) v3 w).bind fun r48 => (if ¬ ((v4 + (1 : Int32)) < 0 ∨ Ln ≤ ((v4 + (1 : Int32))).toNatClampNeg) then (if ¬ ((v4 + (2 : Int32)) < 0 ∨ Ln ≤ ((v4 + (2 : Int32))).toNatClampNeg) then ((hp_is r48.2 v2 7).bind fun _ => ((f_M_prime fu v2 (xs ((v4 + (1 : Int32))).toNatClampNeg) (xs ((v4 + (2 : Int32))).toNatClampNeg) r48.2).bind fun r49 => ((hp_is r49.2 v2 7).bind fun _ => ((f_M_thrown fu v2 r49.2).bind fun r50 => (if r50.1 = r48.1 then (if r48.1 = 0 then ((hp_rl r50.2 v3 (0 : Int32)).bind fun y51 => (if (lg_cmp y51 (r49.1).toInt64) = 0 then (f_L_law_858 fu xs Ln (f_L_law_23 fu xs Ln n) (v1) (v2) (v3) (v4) r50.2) else (if (0 : Int32) = 1 then some () else none))) else (f_L_law_858 fu xs Ln (f_L_law_23 fu xs Ln n) (v1) (v2) (v3) (v4) r50.2)) else (if (0 : Int32) = 1 then some () else none)))))) else none) else none)) else none) else none) else (if ((xs (v4).toNatClampNeg) &&& (15 : Int32)) = (13 : Int32) then (if ¬ ((v4 + (1 : Int32)) < 0 ∨ Ln ≤ ((v4 + (1 : Int32))).toNatClampNeg) then ((f_L_share fu v1 (xs ((v4 + (1 : Int32))).toNatClampNeg) v3 w).bind fun r52 => (if ¬ ((v4 + (1 : Int32)) < 0 ∨ Ln ≤ ((v4 + (1 : Int32))).toNatClampNeg) then ((hp_is r52.2 v2 7).bind fun _ => ((f_M_share fu v2 (xs ((v4 + (1 : Int32))).toNatClampNeg) r52.2).bind fun r53 => ((hp_is r53.2 v2 7).bind fun _ => ((f_M_thrown fu v2 r53.2).bind fun r54 => (if r54.1 = r52.1 then (if r52.1 = 0 then ((hp_rl r54.2 v3 (0 : Int32)).bind fun y55 => (if (lg_cmp y55 (r53.1).toInt64) = 0 then (f_L_law_914 fu xs Ln (f_L_law_23 fu xs Ln n) (v1) (v2) (v3) (v4) r54.2) else (if (0 : Int32) = 1 then some () else none))) else (f_L_law_914 fu xs Ln (f_L_law_23 fu xs Ln n) (v1) (v2) (v3) (v4) r54.2)) else (if (0 : Int32) = 1 then some () else none)))))) else none)) else none) else (if ((xs (v4).toNatClampNeg) &&& (15 : Int32)) = (14 : Int32) then ((f_L_modules fu v1 v3 w).bind fun r56 => ((hp_is r56.2 v2 7).bind fun _ => ((f_M_modules fu v2 r56.2).bind fun r57 => ((hp_is r57.2 v2 7).bind fun _ => ((f_M_thrown fu v2 r57.2).bind fun r58 => (if r58.1 = r56.1 then (if r56.1 = 0 then ((hp_rl r58.2 v3 (0 : Int32)).bind fun y59 => (if (lg_cmp y59 (r57.1).toInt64) = 0 then (f_L_law_958 fu xs Ln (f_L_law_23 fu xs Ln n) (v1) (v2) (v3) (v4) r58.2) else (if (0 : Int32) = 1 then some () else none))) else (f_L_law_958 fu xs Ln (f_L_law_23 fu xs Ln n) (v1) (v2) (v3) (v4) r58.2)) else (if (0 : Int32) = 1 then some () else none))))))) else (f_L_law_961 fu xs Ln (f_L_law_23 fu xs Ln n) (v1) (v2) (v3) (v4) w)))))))))))))))) else none))
section
variable {p : Program} {l : Launch} {e : Env} {s : State} {m : MethodId} {below : List Frame} {meth : Method} {c : Code} {D : va_G} {ca : Nat → Nat} {A : Nat → Prop} {ad : Nat → Nat} {sc Ln : Nat} {xs : Nat → Int32}
set_option maxRecDepth 100000 in
set_option maxHeartbeats 4000000 in
theorem v_L_law_961 (K : av_K p s m #[Value.ref sc] meth c D cl8 ca A code 8 R_L WS) (G : av_G NS tabON A s s.heap) (X : av_X A s s.heap) (N : av_N s) (hl : l.stackTraces = false) (S : av_SX s A sc Ln xs) (hr : meth.sig.returnType = ret) (hA : ∀ q, A q → s.heap.size ≤ q) (fu : Nat) (k23 : Nat → Nat → Nat → Int32 → List va_E → Option Unit) {n : Nat} (hk23 : ∀ (v1 : Nat) (v2 : Nat) (v3 : Nat) (v4 : Int32) (w : List va_E) (cells slots : Nat) (hcc : cells + 8 * n ≤ 601024) (hcs : slots + 48 * n ≤ 7293034), k23 v1 v2 v3 v4 w = some () → av_V p l e room_1 s m #[Value.ref sc] below meth c D cl8 A ad ca 8 (lw_Z below #[Value.ref sc] s) cells slots 23 [some (.retAddr sc), some (.ref v1), some (.ref v2), some (.ref v3), some (.int v4), none, none, none] [] w) (v1 : Nat) (v2 : Nat) (v3 : Nat) (v4 : Int32) (w : List va_E) (cells slots : Nat) (hcc : cells + 8 * n ≤ 601024) (hcs : slots + 48 * n ≤ 7293034) (h : f_L_law_961 fu xs Ln k23 v1 v2 v3 v4 w = some ()) : av_V p l e room_1 s m #[Value.ref sc] below meth c D cl8 A ad ca 8 (lw_Z below #[Value.ref sc] s) cells slots 961 [some (.retAddr sc), some (.ref v1), some (.ref v2), some (.ref v3), some (.int v4), none, none, none] [] w := by
  unfold f_L_law_961 at h
  refine av_iinc (v := (v4 + (3 : Int32))) (L' := [some (.retAddr sc), some (.ref v1), some (.ref v2), some (.ref v3), some (.int (v4 + (3 : Int32))), none, none, none]) K d_L_law_961 rfl (congrArg (fun z => v4 + z) (show Int32.ofInt 3 = (3 : Int32) by decide)) (Nat.le_of_ble_eq_true rfl) rfl ?_
  refine av_goto (tgt := 23) K d_L_law_964 rfl ?_
  exact hk23 (v1) (v2) (v3) ((v4 + (3 : Int32))) _ _ _ (by omega) (by omega) h
set_option maxRecDepth 100000 in
set_option maxHeartbeats 4000000 in
theorem v_L_law_579 (K : av_K p s m #[Value.ref sc] meth c D cl8 ca A code 8 R_L WS) (G : av_G NS tabON A s s.heap) (X : av_X A s s.heap) (N : av_N s) (hl : l.stackTraces = false) (S : av_SX s A sc Ln xs) (hr : meth.sig.returnType = ret) (hA : ∀ q, A q → s.heap.size ≤ q) (fu : Nat) (k23 : Nat → Nat → Nat → Int32 → List va_E → Option Unit) {n : Nat} (hk23 : ∀ (v1 : Nat) (v2 : Nat) (v3 : Nat) (v4 : Int32) (w : List va_E) (cells slots : Nat) (hcc : cells + 8 * n ≤ 601024) (hcs : slots + 48 * n ≤ 7293034), k23 v1 v2 v3 v4 w = some () → av_V p l e room_1 s m #[Value.ref sc] below meth c D cl8 A ad ca 8 (lw_Z below #[Value.ref sc] s) cells slots 23 [some (.retAddr sc), some (.ref v1), some (.ref v2), some (.ref v3), some (.int v4), none, none, none] [] w) (v1 : Nat) (v2 : Nat) (v3 : Nat) (v4 : Int32) (w : List va_E) (cells slots : Nat) (hcc : cells + 8 * n ≤ 601024) (hcs : slots + 48 * n ≤ 7293034) (h : f_L_law_579 fu xs Ln k23 v1 v2 v3 v4 w = some ()) : av_V p l e room_1 s m #[Value.ref sc] below meth c D cl8 A ad ca 8 (lw_Z below #[Value.ref sc] s) cells slots 579 [some (.retAddr sc), some (.ref v1), some (.ref v2), some (.ref v3), some (.int v4), none, none, none] [] w := by
  unfold f_L_law_579 at h
  refine av_goto (tgt := 961) K d_L_law_579 rfl ?_
  exact v_L_law_961 K G X N hl S hr hA fu k23 hk23 (v1) (v2) (v3) (v4) _ _ _ (by omega) (by omega) h
set_option maxRecDepth 100000 in
set_option maxHeartbeats 4000000 in
theorem v_L_law_165 (K : av_K p s m #[Value.ref sc] meth c D cl8 ca A code 8 R_L WS) (G : av_G NS tabON A s s.heap) (X : av_X A s s.heap) (N : av_N s) (hl : l.stackTraces = false) (S : av_SX s A sc Ln xs) (hr : meth.sig.returnType = ret) (hA : ∀ q, A q → s.heap.size ≤ q) (fu : Nat) (k23 : Nat → Nat → Nat → Int32 → List va_E → Option Unit) {n : Nat} (hk23 : ∀ (v1 : Nat) (v2 : Nat) (v3 : Nat) (v4 : Int32) (w : List va_E) (cells slots : Nat) (hcc : cells + 8 * n ≤ 601024) (hcs : slots + 48 * n ≤ 7293034), k23 v1 v2 v3 v4 w = some () → av_V p l e room_1 s m #[Value.ref sc] below meth c D cl8 A ad ca 8 (lw_Z below #[Value.ref sc] s) cells slots 23 [some (.retAddr sc), some (.ref v1), some (.ref v2), some (.ref v3), some (.int v4), none, none, none] [] w) (v1 : Nat) (v2 : Nat) (v3 : Nat) (v4 : Int32) (w : List va_E) (cells slots : Nat) (hcc : cells + 8 * n ≤ 601024) (hcs : slots + 48 * n ≤ 7293034) (h : f_L_law_165 fu xs Ln k23 v1 v2 v3 v4 w = some ()) : av_V p l e room_1 s m #[Value.ref sc] below meth c D cl8 A ad ca 8 (lw_Z below #[Value.ref sc] s) cells slots 165 [some (.retAddr sc), some (.ref v1), some (.ref v2), some (.ref v3), some (.int v4), none, none, none] [] w := by
  unfold f_L_law_165 at h
  refine av_goto (tgt := 961) K d_L_law_165 rfl ?_
  exact v_L_law_961 K G X N hl S hr hA fu k23 hk23 (v1) (v2) (v3) (v4) _ _ _ (by omega) (by omega) h
set_option maxRecDepth 100000 in
set_option maxHeartbeats 4000000 in
theorem v_L_law_233 (K : av_K p s m #[Value.ref sc] meth c D cl8 ca A code 8 R_L WS) (G : av_G NS tabON A s s.heap) (X : av_X A s s.heap) (N : av_N s) (hl : l.stackTraces = false) (S : av_SX s A sc Ln xs) (hr : meth.sig.returnType = ret) (hA : ∀ q, A q → s.heap.size ≤ q) (fu : Nat) (k23 : Nat → Nat → Nat → Int32 → List va_E → Option Unit) {n : Nat} (hk23 : ∀ (v1 : Nat) (v2 : Nat) (v3 : Nat) (v4 : Int32) (w : List va_E) (cells slots : Nat) (hcc : cells + 8 * n ≤ 601024) (hcs : slots + 48 * n ≤ 7293034), k23 v1 v2 v3 v4 w = some () → av_V p l e room_1 s m #[Value.ref sc] below meth c D cl8 A ad ca 8 (lw_Z below #[Value.ref sc] s) cells slots 23 [some (.retAddr sc), some (.ref v1), some (.ref v2), some (.ref v3), some (.int v4), none, none, none] [] w) (v1 : Nat) (v2 : Nat) (v3 : Nat) (v4 : Int32) (w : List va_E) (cells slots : Nat) (hcc : cells + 8 * n ≤ 601024) (hcs : slots + 48 * n ≤ 7293034) (h : f_L_law_233 fu xs Ln k23 v1 v2 v3 v4 w = some ()) : av_V p l e room_1 s m #[Value.ref sc] below meth c D cl8 A ad ca 8 (lw_Z below #[Value.ref sc] s) cells slots 233 [some (.retAddr sc), some (.ref v1), some (.ref v2), some (.ref v3), some (.int v4), none, none, none] [] w := by
  unfold f_L_law_233 at h
  refine av_goto (tgt := 961) K d_L_law_233 rfl ?_
  exact v_L_law_961 K G X N hl S hr hA fu k23 hk23 (v1) (v2) (v3) (v4) _ _ _ (by omega) (by omega) h
set_option maxRecDepth 100000 in
set_option maxHeartbeats 4000000 in
theorem v_L_law_734 (K : av_K p s m #[Value.ref sc] meth c D cl8 ca A code 8 R_L WS) (G : av_G NS tabON A s s.heap) (X : av_X A s s.heap) (N : av_N s) (hl : l.stackTraces = false) (S : av_SX s A sc Ln xs) (hr : meth.sig.returnType = ret) (hA : ∀ q, A q → s.heap.size ≤ q) (fu : Nat) (k23 : Nat → Nat → Nat → Int32 → List va_E → Option Unit) {n : Nat} (hk23 : ∀ (v1 : Nat) (v2 : Nat) (v3 : Nat) (v4 : Int32) (w : List va_E) (cells slots : Nat) (hcc : cells + 8 * n ≤ 601024) (hcs : slots + 48 * n ≤ 7293034), k23 v1 v2 v3 v4 w = some () → av_V p l e room_1 s m #[Value.ref sc] below meth c D cl8 A ad ca 8 (lw_Z below #[Value.ref sc] s) cells slots 23 [some (.retAddr sc), some (.ref v1), some (.ref v2), some (.ref v3), some (.int v4), none, none, none] [] w) (v1 : Nat) (v2 : Nat) (v3 : Nat) (v4 : Int32) (w : List va_E) (cells slots : Nat) (hcc : cells + 8 * n ≤ 601024) (hcs : slots + 48 * n ≤ 7293034) (h : f_L_law_734 fu xs Ln k23 v1 v2 v3 v4 w = some ()) : av_V p l e room_1 s m #[Value.ref sc] below meth c D cl8 A ad ca 8 (lw_Z below #[Value.ref sc] s) cells slots 734 [some (.retAddr sc), some (.ref v1), some (.ref v2), some (.ref v3), some (.int v4), none, none, none] [] w := by
  unfold f_L_law_734 at h
  refine av_goto (tgt := 961) K d_L_law_734 rfl ?_
  exact v_L_law_961 K G X N hl S hr hA fu k23 hk23 (v1) (v2) (v3) (v4) _ _ _ (by omega) (by omega) h
set_option maxRecDepth 100000 in
set_option maxHeartbeats 4000000 in
theorem v_L_law_301 (K : av_K p s m #[Value.ref sc] meth c D cl8 ca A code 8 R_L WS) (G : av_G NS tabON A s s.heap) (X : av_X A s s.heap) (N : av_N s) (hl : l.stackTraces = false) (S : av_SX s A sc Ln xs) (hr : meth.sig.returnType = ret) (hA : ∀ q, A q → s.heap.size ≤ q) (fu : Nat) (k23 : Nat → Nat → Nat → Int32 → List va_E → Option Unit) {n : Nat} (hk23 : ∀ (v1 : Nat) (v2 : Nat) (v3 : Nat) (v4 : Int32) (w : List va_E) (cells slots : Nat) (hcc : cells + 8 * n ≤ 601024) (hcs : slots + 48 * n ≤ 7293034), k23 v1 v2 v3 v4 w = some () → av_V p l e room_1 s m #[Value.ref sc] below meth c D cl8 A ad ca 8 (lw_Z below #[Value.ref sc] s) cells slots 23 [some (.retAddr sc), some (.ref v1), some (.ref v2), some (.ref v3), some (.int v4), none, none, none] [] w) (v1 : Nat) (v2 : Nat) (v3 : Nat) (v4 : Int32) (w : List va_E) (cells slots : Nat) (hcc : cells + 8 * n ≤ 601024) (hcs : slots + 48 * n ≤ 7293034) (h : f_L_law_301 fu xs Ln k23 v1 v2 v3 v4 w = some ()) : av_V p l e room_1 s m #[Value.ref sc] below meth c D cl8 A ad ca 8 (lw_Z below #[Value.ref sc] s) cells slots 301 [some (.retAddr sc), some (.ref v1), some (.ref v2), some (.ref v3), some (.int v4), none, none, none] [] w := by
  unfold f_L_law_301 at h
  refine av_goto (tgt := 961) K d_L_law_301 rfl ?_
  exact v_L_law_961 K G X N hl S hr hA fu k23 hk23 (v1) (v2) (v3) (v4) _ _ _ (by omega) (by omega) h
set_option maxRecDepth 100000 in
set_option maxHeartbeats 4000000 in
theorem v_L_law_369 (K : av_K p s m #[Value.ref sc] meth c D cl8 ca A code 8 R_L WS) (G : av_G NS tabON A s s.heap) (X : av_X A s s.heap) (N : av_N s) (hl : l.stackTraces = false) (S : av_SX s A sc Ln xs) (hr : meth.sig.returnType = ret) (hA : ∀ q, A q → s.heap.size ≤ q) (fu : Nat) (k23 : Nat → Nat → Nat → Int32 → List va_E → Option Unit) {n : Nat} (hk23 : ∀ (v1 : Nat) (v2 : Nat) (v3 : Nat) (v4 : Int32) (w : List va_E) (cells slots : Nat) (hcc : cells + 8 * n ≤ 601024) (hcs : slots + 48 * n ≤ 7293034), k23 v1 v2 v3 v4 w = some () → av_V p l e room_1 s m #[Value.ref sc] below meth c D cl8 A ad ca 8 (lw_Z below #[Value.ref sc] s) cells slots 23 [some (.retAddr sc), some (.ref v1), some (.ref v2), some (.ref v3), some (.int v4), none, none, none] [] w) (v1 : Nat) (v2 : Nat) (v3 : Nat) (v4 : Int32) (w : List va_E) (cells slots : Nat) (hcc : cells + 8 * n ≤ 601024) (hcs : slots + 48 * n ≤ 7293034) (h : f_L_law_369 fu xs Ln k23 v1 v2 v3 v4 w = some ()) : av_V p l e room_1 s m #[Value.ref sc] below meth c D cl8 A ad ca 8 (lw_Z below #[Value.ref sc] s) cells slots 369 [some (.retAddr sc), some (.ref v1), some (.ref v2), some (.ref v3), some (.int v4), none, none, none] [] w := by
  unfold f_L_law_369 at h
  refine av_goto (tgt := 961) K d_L_law_369 rfl ?_
  exact v_L_law_961 K G X N hl S hr hA fu k23 hk23 (v1) (v2) (v3) (v4) _ _ _ (by omega) (by omega) h
set_option maxRecDepth 100000 in
set_option maxHeartbeats 4000000 in
theorem v_L_law_914 (K : av_K p s m #[Value.ref sc] meth c D cl8 ca A code 8 R_L WS) (G : av_G NS tabON A s s.heap) (X : av_X A s s.heap) (N : av_N s) (hl : l.stackTraces = false) (S : av_SX s A sc Ln xs) (hr : meth.sig.returnType = ret) (hA : ∀ q, A q → s.heap.size ≤ q) (fu : Nat) (k23 : Nat → Nat → Nat → Int32 → List va_E → Option Unit) {n : Nat} (hk23 : ∀ (v1 : Nat) (v2 : Nat) (v3 : Nat) (v4 : Int32) (w : List va_E) (cells slots : Nat) (hcc : cells + 8 * n ≤ 601024) (hcs : slots + 48 * n ≤ 7293034), k23 v1 v2 v3 v4 w = some () → av_V p l e room_1 s m #[Value.ref sc] below meth c D cl8 A ad ca 8 (lw_Z below #[Value.ref sc] s) cells slots 23 [some (.retAddr sc), some (.ref v1), some (.ref v2), some (.ref v3), some (.int v4), none, none, none] [] w) (v1 : Nat) (v2 : Nat) (v3 : Nat) (v4 : Int32) (w : List va_E) (cells slots : Nat) (hcc : cells + 8 * n ≤ 601024) (hcs : slots + 48 * n ≤ 7293034) (h : f_L_law_914 fu xs Ln k23 v1 v2 v3 v4 w = some ()) : av_V p l e room_1 s m #[Value.ref sc] below meth c D cl8 A ad ca 8 (lw_Z below #[Value.ref sc] s) cells slots 914 [some (.retAddr sc), some (.ref v1), some (.ref v2), some (.ref v3), some (.int v4), none, none, none] [] w := by
  unfold f_L_law_914 at h
  refine av_goto (tgt := 961) K d_L_law_914 rfl ?_
  exact v_L_law_961 K G X N hl S hr hA fu k23 hk23 (v1) (v2) (v3) (v4) _ _ _ (by omega) (by omega) h
set_option maxRecDepth 100000 in
set_option maxHeartbeats 4000000 in
theorem v_L_law_690 (K : av_K p s m #[Value.ref sc] meth c D cl8 ca A code 8 R_L WS) (G : av_G NS tabON A s s.heap) (X : av_X A s s.heap) (N : av_N s) (hl : l.stackTraces = false) (S : av_SX s A sc Ln xs) (hr : meth.sig.returnType = ret) (hA : ∀ q, A q → s.heap.size ≤ q) (fu : Nat) (k23 : Nat → Nat → Nat → Int32 → List va_E → Option Unit) {n : Nat} (hk23 : ∀ (v1 : Nat) (v2 : Nat) (v3 : Nat) (v4 : Int32) (w : List va_E) (cells slots : Nat) (hcc : cells + 8 * n ≤ 601024) (hcs : slots + 48 * n ≤ 7293034), k23 v1 v2 v3 v4 w = some () → av_V p l e room_1 s m #[Value.ref sc] below meth c D cl8 A ad ca 8 (lw_Z below #[Value.ref sc] s) cells slots 23 [some (.retAddr sc), some (.ref v1), some (.ref v2), some (.ref v3), some (.int v4), none, none, none] [] w) (v1 : Nat) (v2 : Nat) (v3 : Nat) (v4 : Int32) (w : List va_E) (cells slots : Nat) (hcc : cells + 8 * n ≤ 601024) (hcs : slots + 48 * n ≤ 7293034) (h : f_L_law_690 fu xs Ln k23 v1 v2 v3 v4 w = some ()) : av_V p l e room_1 s m #[Value.ref sc] below meth c D cl8 A ad ca 8 (lw_Z below #[Value.ref sc] s) cells slots 690 [some (.retAddr sc), some (.ref v1), some (.ref v2), some (.ref v3), some (.int v4), none, none, none] [] w := by
  unfold f_L_law_690 at h
  refine av_goto (tgt := 961) K d_L_law_690 rfl ?_
  exact v_L_law_961 K G X N hl S hr hA fu k23 hk23 (v1) (v2) (v3) (v4) _ _ _ (by omega) (by omega) h
set_option maxRecDepth 100000 in
set_option maxHeartbeats 4000000 in
theorem v_L_law_536 (K : av_K p s m #[Value.ref sc] meth c D cl8 ca A code 8 R_L WS) (G : av_G NS tabON A s s.heap) (X : av_X A s s.heap) (N : av_N s) (hl : l.stackTraces = false) (S : av_SX s A sc Ln xs) (hr : meth.sig.returnType = ret) (hA : ∀ q, A q → s.heap.size ≤ q) (fu : Nat) (k23 : Nat → Nat → Nat → Int32 → List va_E → Option Unit) {n : Nat} (hk23 : ∀ (v1 : Nat) (v2 : Nat) (v3 : Nat) (v4 : Int32) (w : List va_E) (cells slots : Nat) (hcc : cells + 8 * n ≤ 601024) (hcs : slots + 48 * n ≤ 7293034), k23 v1 v2 v3 v4 w = some () → av_V p l e room_1 s m #[Value.ref sc] below meth c D cl8 A ad ca 8 (lw_Z below #[Value.ref sc] s) cells slots 23 [some (.retAddr sc), some (.ref v1), some (.ref v2), some (.ref v3), some (.int v4), none, none, none] [] w) (v1 : Nat) (v2 : Nat) (v3 : Nat) (v4 : Int32) (w : List va_E) (cells slots : Nat) (hcc : cells + 8 * n ≤ 601024) (hcs : slots + 48 * n ≤ 7293034) (h : f_L_law_536 fu xs Ln k23 v1 v2 v3 v4 w = some ()) : av_V p l e room_1 s m #[Value.ref sc] below meth c D cl8 A ad ca 8 (lw_Z below #[Value.ref sc] s) cells slots 536 [some (.retAddr sc), some (.ref v1), some (.ref v2), some (.ref v3), some (.int v4), none, none, none] [] w := by
  unfold f_L_law_536 at h
  refine av_goto (tgt := 961) K d_L_law_536 rfl ?_
  exact v_L_law_961 K G X N hl S hr hA fu k23 hk23 (v1) (v2) (v3) (v4) _ _ _ (by omega) (by omega) h
set_option maxRecDepth 100000 in
set_option maxHeartbeats 4000000 in
theorem v_L_law_530 (K : av_K p s m #[Value.ref sc] meth c D cl8 ca A code 8 R_L WS) (G : av_G NS tabON A s s.heap) (X : av_X A s s.heap) (N : av_N s) (hl : l.stackTraces = false) (S : av_SX s A sc Ln xs) (hr : meth.sig.returnType = ret) (hA : ∀ q, A q → s.heap.size ≤ q) (fu : Nat) (k23 : Nat → Nat → Nat → Int32 → List va_E → Option Unit) {n : Nat} (hk23 : ∀ (v1 : Nat) (v2 : Nat) (v3 : Nat) (v4 : Int32) (w : List va_E) (cells slots : Nat) (hcc : cells + 8 * n ≤ 601024) (hcs : slots + 48 * n ≤ 7293034), k23 v1 v2 v3 v4 w = some () → av_V p l e room_1 s m #[Value.ref sc] below meth c D cl8 A ad ca 8 (lw_Z below #[Value.ref sc] s) cells slots 23 [some (.retAddr sc), some (.ref v1), some (.ref v2), some (.ref v3), some (.int v4), none, none, none] [] w) (v1 : Nat) (v2 : Nat) (v3 : Nat) (v4 : Int32) (s0 : Int64) (s1 : Int64) (w : List va_E) (cells slots : Nat) (hcc : cells + 8 * n ≤ 601024) (hcs : slots + 48 * n ≤ 7293034) (h : f_L_law_530 fu xs Ln k23 v1 v2 v3 v4 s0 s1 w = some ()) : av_V p l e room_1 s m #[Value.ref sc] below meth c D cl8 A ad ca 8 (lw_Z below #[Value.ref sc] s) cells slots 530 [some (.retAddr sc), some (.ref v1), some (.ref v2), some (.ref v3), some (.int v4), none, none, none] [.long s1, .long s0] w := by
  unfold f_L_law_530 at h
  refine av_lcmp K d_L_law_530 ?_
  refine av_if_eq (tgt := 536) K d_L_law_531 rfl (fun hc => ?_) (fun hc => ?_)
  · rw [if_pos hc] at h
    exact v_L_law_536 K G X N hl S hr hA fu k23 hk23 (v1) (v2) (v3) (v4) _ _ _ (by omega) (by omega) h
  · rw [if_neg hc] at h
    refine av_iconst (v := (0 : Int32)) K d_L_law_534 (by decide) ?_
    obtain ⟨hz, h⟩ := hp_if h
    exact absurd hz (by decide)
set_option maxRecDepth 100000 in
set_option maxHeartbeats 4000000 in
theorem v_L_law_437 (K : av_K p s m #[Value.ref sc] meth c D cl8 ca A code 8 R_L WS) (G : av_G NS tabON A s s.heap) (X : av_X A s s.heap) (N : av_N s) (hl : l.stackTraces = false) (S : av_SX s A sc Ln xs) (hr : meth.sig.returnType = ret) (hA : ∀ q, A q → s.heap.size ≤ q) (fu : Nat) (k23 : Nat → Nat → Nat → Int32 → List va_E → Option Unit) {n : Nat} (hk23 : ∀ (v1 : Nat) (v2 : Nat) (v3 : Nat) (v4 : Int32) (w : List va_E) (cells slots : Nat) (hcc : cells + 8 * n ≤ 601024) (hcs : slots + 48 * n ≤ 7293034), k23 v1 v2 v3 v4 w = some () → av_V p l e room_1 s m #[Value.ref sc] below meth c D cl8 A ad ca 8 (lw_Z below #[Value.ref sc] s) cells slots 23 [some (.retAddr sc), some (.ref v1), some (.ref v2), some (.ref v3), some (.int v4), none, none, none] [] w) (v1 : Nat) (v2 : Nat) (v3 : Nat) (v4 : Int32) (w : List va_E) (cells slots : Nat) (hcc : cells + 8 * n ≤ 601024) (hcs : slots + 48 * n ≤ 7293034) (h : f_L_law_437 fu xs Ln k23 v1 v2 v3 v4 w = some ()) : av_V p l e room_1 s m #[Value.ref sc] below meth c D cl8 A ad ca 8 (lw_Z below #[Value.ref sc] s) cells slots 437 [some (.retAddr sc), some (.ref v1), some (.ref v2), some (.ref v3), some (.int v4), none, none, none] [] w := by
  unfold f_L_law_437 at h
  refine av_goto (tgt := 961) K d_L_law_437 rfl ?_
  exact v_L_law_961 K G X N hl S hr hA fu k23 hk23 (v1) (v2) (v3) (v4) _ _ _ (by omega) (by omega) h
set_option maxRecDepth 100000 in
set_option maxHeartbeats 4000000 in
theorem v_L_law_790 (K : av_K p s m #[Value.ref sc] meth c D cl8 ca A code 8 R_L WS) (G : av_G NS tabON A s s.heap) (X : av_X A s s.heap) (N : av_N s) (hl : l.stackTraces = false) (S : av_SX s A sc Ln xs) (hr : meth.sig.returnType = ret) (hA : ∀ q, A q → s.heap.size ≤ q) (fu : Nat) (k23 : Nat → Nat → Nat → Int32 → List va_E → Option Unit) {n : Nat} (hk23 : ∀ (v1 : Nat) (v2 : Nat) (v3 : Nat) (v4 : Int32) (w : List va_E) (cells slots : Nat) (hcc : cells + 8 * n ≤ 601024) (hcs : slots + 48 * n ≤ 7293034), k23 v1 v2 v3 v4 w = some () → av_V p l e room_1 s m #[Value.ref sc] below meth c D cl8 A ad ca 8 (lw_Z below #[Value.ref sc] s) cells slots 23 [some (.retAddr sc), some (.ref v1), some (.ref v2), some (.ref v3), some (.int v4), none, none, none] [] w) (v1 : Nat) (v2 : Nat) (v3 : Nat) (v4 : Int32) (w : List va_E) (cells slots : Nat) (hcc : cells + 8 * n ≤ 601024) (hcs : slots + 48 * n ≤ 7293034) (h : f_L_law_790 fu xs Ln k23 v1 v2 v3 v4 w = some ()) : av_V p l e room_1 s m #[Value.ref sc] below meth c D cl8 A ad ca 8 (lw_Z below #[Value.ref sc] s) cells slots 790 [some (.retAddr sc), some (.ref v1), some (.ref v2), some (.ref v3), some (.int v4), none, none, none] [] w := by
  unfold f_L_law_790 at h
  refine av_goto (tgt := 961) K d_L_law_790 rfl ?_
  exact v_L_law_961 K G X N hl S hr hA fu k23 hk23 (v1) (v2) (v3) (v4) _ _ _ (by omega) (by omega) h
set_option maxRecDepth 100000 in
set_option maxHeartbeats 4000000 in
theorem v_L_law_858 (K : av_K p s m #[Value.ref sc] meth c D cl8 ca A code 8 R_L WS) (G : av_G NS tabON A s s.heap) (X : av_X A s s.heap) (N : av_N s) (hl : l.stackTraces = false) (S : av_SX s A sc Ln xs) (hr : meth.sig.returnType = ret) (hA : ∀ q, A q → s.heap.size ≤ q) (fu : Nat) (k23 : Nat → Nat → Nat → Int32 → List va_E → Option Unit) {n : Nat} (hk23 : ∀ (v1 : Nat) (v2 : Nat) (v3 : Nat) (v4 : Int32) (w : List va_E) (cells slots : Nat) (hcc : cells + 8 * n ≤ 601024) (hcs : slots + 48 * n ≤ 7293034), k23 v1 v2 v3 v4 w = some () → av_V p l e room_1 s m #[Value.ref sc] below meth c D cl8 A ad ca 8 (lw_Z below #[Value.ref sc] s) cells slots 23 [some (.retAddr sc), some (.ref v1), some (.ref v2), some (.ref v3), some (.int v4), none, none, none] [] w) (v1 : Nat) (v2 : Nat) (v3 : Nat) (v4 : Int32) (w : List va_E) (cells slots : Nat) (hcc : cells + 8 * n ≤ 601024) (hcs : slots + 48 * n ≤ 7293034) (h : f_L_law_858 fu xs Ln k23 v1 v2 v3 v4 w = some ()) : av_V p l e room_1 s m #[Value.ref sc] below meth c D cl8 A ad ca 8 (lw_Z below #[Value.ref sc] s) cells slots 858 [some (.retAddr sc), some (.ref v1), some (.ref v2), some (.ref v3), some (.int v4), none, none, none] [] w := by
  unfold f_L_law_858 at h
  refine av_goto (tgt := 961) K d_L_law_858 rfl ?_
  exact v_L_law_961 K G X N hl S hr hA fu k23 hk23 (v1) (v2) (v3) (v4) _ _ _ (by omega) (by omega) h
set_option maxRecDepth 100000 in
set_option maxHeartbeats 4000000 in
theorem v_L_law_635 (K : av_K p s m #[Value.ref sc] meth c D cl8 ca A code 8 R_L WS) (G : av_G NS tabON A s s.heap) (X : av_X A s s.heap) (N : av_N s) (hl : l.stackTraces = false) (S : av_SX s A sc Ln xs) (hr : meth.sig.returnType = ret) (hA : ∀ q, A q → s.heap.size ≤ q) (fu : Nat) (k23 : Nat → Nat → Nat → Int32 → List va_E → Option Unit) {n : Nat} (hk23 : ∀ (v1 : Nat) (v2 : Nat) (v3 : Nat) (v4 : Int32) (w : List va_E) (cells slots : Nat) (hcc : cells + 8 * n ≤ 601024) (hcs : slots + 48 * n ≤ 7293034), k23 v1 v2 v3 v4 w = some () → av_V p l e room_1 s m #[Value.ref sc] below meth c D cl8 A ad ca 8 (lw_Z below #[Value.ref sc] s) cells slots 23 [some (.retAddr sc), some (.ref v1), some (.ref v2), some (.ref v3), some (.int v4), none, none, none] [] w) (v1 : Nat) (v2 : Nat) (v3 : Nat) (v4 : Int32) (w : List va_E) (cells slots : Nat) (hcc : cells + 8 * n ≤ 601024) (hcs : slots + 48 * n ≤ 7293034) (h : f_L_law_635 fu xs Ln k23 v1 v2 v3 v4 w = some ()) : av_V p l e room_1 s m #[Value.ref sc] below meth c D cl8 A ad ca 8 (lw_Z below #[Value.ref sc] s) cells slots 635 [some (.retAddr sc), some (.ref v1), some (.ref v2), some (.ref v3), some (.int v4), none, none, none] [] w := by
  unfold f_L_law_635 at h
  refine av_goto (tgt := 961) K d_L_law_635 rfl ?_
  exact v_L_law_961 K G X N hl S hr hA fu k23 hk23 (v1) (v2) (v3) (v4) _ _ _ (by omega) (by omega) h
set_option maxRecDepth 100000 in
set_option maxHeartbeats 4000000 in
theorem v_L_law_958 (K : av_K p s m #[Value.ref sc] meth c D cl8 ca A code 8 R_L WS) (G : av_G NS tabON A s s.heap) (X : av_X A s s.heap) (N : av_N s) (hl : l.stackTraces = false) (S : av_SX s A sc Ln xs) (hr : meth.sig.returnType = ret) (hA : ∀ q, A q → s.heap.size ≤ q) (fu : Nat) (k23 : Nat → Nat → Nat → Int32 → List va_E → Option Unit) {n : Nat} (hk23 : ∀ (v1 : Nat) (v2 : Nat) (v3 : Nat) (v4 : Int32) (w : List va_E) (cells slots : Nat) (hcc : cells + 8 * n ≤ 601024) (hcs : slots + 48 * n ≤ 7293034), k23 v1 v2 v3 v4 w = some () → av_V p l e room_1 s m #[Value.ref sc] below meth c D cl8 A ad ca 8 (lw_Z below #[Value.ref sc] s) cells slots 23 [some (.retAddr sc), some (.ref v1), some (.ref v2), some (.ref v3), some (.int v4), none, none, none] [] w) (v1 : Nat) (v2 : Nat) (v3 : Nat) (v4 : Int32) (w : List va_E) (cells slots : Nat) (hcc : cells + 8 * n ≤ 601024) (hcs : slots + 48 * n ≤ 7293034) (h : f_L_law_958 fu xs Ln k23 v1 v2 v3 v4 w = some ()) : av_V p l e room_1 s m #[Value.ref sc] below meth c D cl8 A ad ca 8 (lw_Z below #[Value.ref sc] s) cells slots 958 [some (.retAddr sc), some (.ref v1), some (.ref v2), some (.ref v3), some (.int v4), none, none, none] [] w := by
  unfold f_L_law_958 at h
  refine av_goto (tgt := 961) K d_L_law_958 rfl ?_
  exact v_L_law_961 K G X N hl S hr hA fu k23 hk23 (v1) (v2) (v3) (v4) _ _ _ (by omega) (by omega) h
set_option maxRecDepth 100000 in
set_option maxHeartbeats 4000000 in
theorem v_L_law_23 (K : av_K p s m #[Value.ref sc] meth c D cl8 ca A code 8 R_L WS) (G : av_G NS tabON A s s.heap) (X : av_X A s s.heap) (N : av_N s) (hl : l.stackTraces = false) (S : av_SX s A sc Ln xs) (hr : meth.sig.returnType = ret) (hA : ∀ q, A q → s.heap.size ≤ q) (fu : Nat) : ∀ (n : Nat) (v1 : Nat) (v2 : Nat) (v3 : Nat) (v4 : Int32) (w : List va_E) (cells slots : Nat) (hcc : cells + 8 * n ≤ 601024) (hcs : slots + 48 * n ≤ 7293034), f_L_law_23 fu xs Ln n v1 v2 v3 v4 w = some () → av_V p l e room_1 s m #[Value.ref sc] below meth c D cl8 A ad ca 8 (lw_Z below #[Value.ref sc] s) cells slots 23 [some (.retAddr sc), some (.ref v1), some (.ref v2), some (.ref v3), some (.int v4), none, none, none] [] w := by
  intro n
  induction n with
  | zero => intro _ _ _ _ _ _ _ _ _ h; cases h
  | succ n ih =>
    intro v1 v2 v3 v4 w cells slots hcc hcs h
    unfold f_L_law_23 at h
    refine av_iload K d_L_law_23 rfl ?_
    refine av_aloadR K d_L_law_25 rfl rfl ?_
    refine av_slen K S d_L_law_26 ?_
    refine av_iconst (v := (3 : Int32)) K d_L_law_27 (by decide) ?_
    refine av_isub K d_L_law_28 ?_
    refine av_icmp_gt (tgt := 967) K d_L_law_29 rfl (fun hc => ?_) (fun hc => ?_)
    · rw [if_pos hc] at h
      refine av_iconst (v := (1 : Int32)) K d_L_law_967 (by decide) ?_
      obtain ⟨hz, h⟩ := hp_if h
      exact av_lend K hr hA d_L_law_968 (by omega) (by omega)
    · rw [if_neg hc] at h
      refine av_aloadR K d_L_law_32 rfl rfl ?_
      refine av_iload K d_L_law_33 rfl ?_
      obtain ⟨hi35, h⟩ := hp_if h
      refine av_sld K S d_L_law_35 hi35 ?_
      refine av_bipush (v := (15 : Int32)) K d_L_law_36 (by decide) ?_
      refine av_iand K d_L_law_38 ?_
      by_cases hs39_0 : ((xs (v4).toNatClampNeg) &&& (15 : Int32)) = (0 : Int32)
      · rw [if_pos hs39_0] at h
        refine av_tswI (tgt := 112) K d_L_law_39 (by rw [hs39_0]; decide) (by rw [hs39_0]; decide) (by rw [hs39_0]; rfl) rfl ?_
        refine av_aload_n K d_L_law_112 rfl rfl ?_
        refine av_aloadR K d_L_law_113 rfl rfl ?_
        refine av_iload K d_L_law_114 rfl ?_
        refine av_iconst (v := (1 : Int32)) K d_L_law_116 (by decide) ?_
        refine av_iadd K d_L_law_117 ?_
        obtain ⟨hi118, h⟩ := hp_if h
        refine av_sld K S d_L_law_118 hi118 ?_
        refine av_aload_n K d_L_law_119 rfl rfl ?_
        obtain ⟨r1, er1, h⟩ := hp_bd h
        refine av_cH K G X N (c_L_event hl er1) (vx_cwSW 3 K.2.2.2.2.1 (gSU ml_L_73 sm_L_event in_L co_L_event) rfl rfl rfl ce_L_event ⟨(Nat.le_of_ble_eq_true rfl), (Nat.le_of_ble_eq_true rfl)⟩) rfl rfl (Nat.le_of_ble_eq_true rfl) d_L_law_120 ⟨show _ ≤ 601024 by omega, show _ ≤ 7293034 by omega⟩ (fun a9 u9 h9 => ?_)
        obtain ⟨rfl, rfl⟩ : a9 = r1.1 ∧ u9 = r1.2 := ⟨congrArg Prod.fst h9, congrArg Prod.snd h9⟩
        refine av_istore (L' := [some (.retAddr sc), some (.ref v1), some (.ref v2), some (.ref v3), some (.int v4), some (.int r1.1), none, none]) K d_L_law_123 (Nat.le_of_ble_eq_true rfl) rfl ?_
        refine av_aload_n K d_L_law_125 rfl rfl ?_
        refine av_aloadR K d_L_law_126 rfl rfl ?_
        refine av_iload K d_L_law_127 rfl ?_
        refine av_iconst (v := (1 : Int32)) K d_L_law_129 (by decide) ?_
        refine av_iadd K d_L_law_130 ?_
        obtain ⟨hi131, h⟩ := hp_if h
        refine av_sld K S d_L_law_131 hi131 ?_
        obtain ⟨_, eo132, h⟩ := hp_bd h
        obtain ⟨r2, er2, h⟩ := hp_bd h
        obtain ⟨fs132, ho132⟩ := hp_is_of eo132
        refine av_cVi K G (c_M_event (tab := tabON) er2) (cwV 1 K.2.2.2.2.1 (gV ml_L_78 im_M_event se_M_event in_M co_M_event) rfl rfl rfl cd_M_event ⟨Nat.le_of_ble_eq_true rfl, Nat.le_of_ble_eq_true rfl⟩) rfl ho132 rfl rfl (Nat.le_of_ble_eq_true rfl) d_L_law_132 ⟨show _ ≤ 601024 by omega, show _ ≤ 7293034 by omega⟩ (fun a9 u9 h9 => ?_)
        obtain ⟨rfl, rfl⟩ : a9 = r2.1 ∧ u9 = r2.2 := ⟨congrArg Prod.fst h9, congrArg Prod.snd h9⟩
        refine av_istore (L' := [some (.retAddr sc), some (.ref v1), some (.ref v2), some (.ref v3), some (.int v4), some (.int r1.1), some (.int r2.1), none]) K d_L_law_135 (Nat.le_of_ble_eq_true rfl) rfl ?_
        refine av_aload_n K d_L_law_137 rfl rfl ?_
        obtain ⟨_, eo138, h⟩ := hp_bd h
        obtain ⟨r3, er3, h⟩ := hp_bd h
        obtain ⟨fs138, ho138⟩ := hp_is_of eo138
        refine av_cVi K G (c_M_thrown (tab := tabON) er3) (cwV 0 K.2.2.2.2.1 (gV ml_L_79 im_M_thrown se_M_thrown in_M co_M_thrown) rfl rfl rfl cd_M_thrown ⟨Nat.le_of_ble_eq_true rfl, Nat.le_of_ble_eq_true rfl⟩) rfl ho138 rfl rfl (Nat.le_of_ble_eq_true rfl) d_L_law_138 ⟨show _ ≤ 601024 by omega, show _ ≤ 7293034 by omega⟩ (fun a9 u9 h9 => ?_)
        obtain ⟨rfl, rfl⟩ : a9 = r3.1 ∧ u9 = r3.2 := ⟨congrArg Prod.fst h9, congrArg Prod.snd h9⟩
        refine av_iload K d_L_law_141 rfl ?_
        refine av_icmp_eq (tgt := 148) K d_L_law_143 rfl (fun hc => ?_) (fun hc => ?_)
        · rw [if_pos hc] at h
          refine av_iload K d_L_law_148 rfl ?_
          refine av_if_ne (tgt := 165) K d_L_law_150 rfl (fun hc => ?_) (fun hc => ?_)
          · rw [if_neg hc] at h
            refine hv_fg (L' := [some (.retAddr sc), some (.ref v1), some (.ref v2), some (.ref v3), some (.int v4), none, none, none]) [5, 6] rfl ?_
            exact v_L_law_165 K G X N hl S hr hA fu (f_L_law_23 fu xs Ln n) ih (v1) (v2) (v3) (v4) _ _ _ (by omega) (by omega) h
          · rw [if_pos hc] at h
            refine av_aload_n K d_L_law_153 rfl rfl ?_
            refine av_iconst (v := (0 : Int32)) K d_L_law_154 (by decide) ?_
            obtain ⟨y4, ey4, h⟩ := hp_bd h
            refine hv_rl K d_L_law_155 ey4 ?_
            refine av_iload K d_L_law_156 rfl ?_
            refine av_i2l K d_L_law_158 ?_
            refine av_lcmp K d_L_law_159 ?_
            refine av_if_eq (tgt := 165) K d_L_law_160 rfl (fun hc => ?_) (fun hc => ?_)
            · rw [if_pos hc] at h
              refine hv_fg (L' := [some (.retAddr sc), some (.ref v1), some (.ref v2), some (.ref v3), some (.int v4), none, none, none]) [5, 6] rfl ?_
              exact v_L_law_165 K G X N hl S hr hA fu (f_L_law_23 fu xs Ln n) ih (v1) (v2) (v3) (v4) _ _ _ (by omega) (by omega) h
            · rw [if_neg hc] at h
              refine av_iconst (v := (0 : Int32)) K d_L_law_163 (by decide) ?_
              obtain ⟨hz, h⟩ := hp_if h
              exact absurd hz (by decide)
        · rw [if_neg hc] at h
          refine av_iconst (v := (0 : Int32)) K d_L_law_146 (by decide) ?_
          obtain ⟨hz, h⟩ := hp_if h
          exact absurd hz (by decide)
      · rw [if_neg hs39_0] at h
        by_cases hs39_1 : ((xs (v4).toNatClampNeg) &&& (15 : Int32)) = (1 : Int32)
        · rw [if_pos hs39_1] at h
          refine av_tswI (tgt := 168) K d_L_law_39 (by rw [hs39_1]; decide) (by rw [hs39_1]; decide) (by rw [hs39_1]; rfl) rfl ?_
          refine av_aload_n K d_L_law_168 rfl rfl ?_
          refine av_aloadR K d_L_law_169 rfl rfl ?_
          refine av_iload K d_L_law_170 rfl ?_
          refine av_iconst (v := (1 : Int32)) K d_L_law_172 (by decide) ?_
          refine av_iadd K d_L_law_173 ?_
          obtain ⟨hi174, h⟩ := hp_if h
          refine av_sld K S d_L_law_174 hi174 ?_
          refine av_aloadR K d_L_law_175 rfl rfl ?_
          refine av_iload K d_L_law_176 rfl ?_
          refine av_iconst (v := (2 : Int32)) K d_L_law_178 (by decide) ?_
          refine av_iadd K d_L_law_179 ?_
          obtain ⟨hi180, h⟩ := hp_if h
          refine av_sld K S d_L_law_180 hi180 ?_
          refine av_aload_n K d_L_law_181 rfl rfl ?_
          obtain ⟨r5, er5, h⟩ := hp_bd h
          refine av_cH K G X N (c_L_chance hl er5) (vx_cwSW 4 K.2.2.2.2.1 (gSU ml_L_82 sm_L_chance in_L co_L_chance) rfl rfl rfl ce_L_chance ⟨(Nat.le_of_ble_eq_true rfl), (Nat.le_of_ble_eq_true rfl)⟩) rfl rfl (Nat.le_of_ble_eq_true rfl) d_L_law_182 ⟨show _ ≤ 601024 by omega, show _ ≤ 7293034 by omega⟩ (fun a9 u9 h9 => ?_)
          obtain ⟨rfl, rfl⟩ : a9 = r5.1 ∧ u9 = r5.2 := ⟨congrArg Prod.fst h9, congrArg Prod.snd h9⟩
          refine av_istore (L' := [some (.retAddr sc), some (.ref v1), some (.ref v2), some (.ref v3), some (.int v4), some (.int r5.1), none, none]) K d_L_law_185 (Nat.le_of_ble_eq_true rfl) rfl ?_
          refine av_aload_n K d_L_law_187 rfl rfl ?_
          refine av_aloadR K d_L_law_188 rfl rfl ?_
          refine av_iload K d_L_law_189 rfl ?_
          refine av_iconst (v := (1 : Int32)) K d_L_law_191 (by decide) ?_
          refine av_iadd K d_L_law_192 ?_
          obtain ⟨hi193, h⟩ := hp_if h
          refine av_sld K S d_L_law_193 hi193 ?_
          refine av_aloadR K d_L_law_194 rfl rfl ?_
          refine av_iload K d_L_law_195 rfl ?_
          refine av_iconst (v := (2 : Int32)) K d_L_law_197 (by decide) ?_
          refine av_iadd K d_L_law_198 ?_
          obtain ⟨hi199, h⟩ := hp_if h
          refine av_sld K S d_L_law_199 hi199 ?_
          obtain ⟨_, eo200, h⟩ := hp_bd h
          obtain ⟨r6, er6, h⟩ := hp_bd h
          obtain ⟨fs200, ho200⟩ := hp_is_of eo200
          refine av_cVi K G (c_M_chance (tab := tabON) er6) (cwV 2 K.2.2.2.2.1 (gV ml_L_85 im_M_chance se_M_chance in_M co_M_chance) rfl rfl rfl cd_M_chance ⟨Nat.le_of_ble_eq_true rfl, Nat.le_of_ble_eq_true rfl⟩) rfl ho200 rfl rfl (Nat.le_of_ble_eq_true rfl) d_L_law_200 ⟨show _ ≤ 601024 by omega, show _ ≤ 7293034 by omega⟩ (fun a9 u9 h9 => ?_)
          obtain ⟨rfl, rfl⟩ : a9 = r6.1 ∧ u9 = r6.2 := ⟨congrArg Prod.fst h9, congrArg Prod.snd h9⟩
          refine av_istore (L' := [some (.retAddr sc), some (.ref v1), some (.ref v2), some (.ref v3), some (.int v4), some (.int r5.1), some (.int r6.1), none]) K d_L_law_203 (Nat.le_of_ble_eq_true rfl) rfl ?_
          refine av_aload_n K d_L_law_205 rfl rfl ?_
          obtain ⟨_, eo206, h⟩ := hp_bd h
          obtain ⟨r7, er7, h⟩ := hp_bd h
          obtain ⟨fs206, ho206⟩ := hp_is_of eo206
          refine av_cVi K G (c_M_thrown (tab := tabON) er7) (cwV 0 K.2.2.2.2.1 (gV ml_L_79 im_M_thrown se_M_thrown in_M co_M_thrown) rfl rfl rfl cd_M_thrown ⟨Nat.le_of_ble_eq_true rfl, Nat.le_of_ble_eq_true rfl⟩) rfl ho206 rfl rfl (Nat.le_of_ble_eq_true rfl) d_L_law_206 ⟨show _ ≤ 601024 by omega, show _ ≤ 7293034 by omega⟩ (fun a9 u9 h9 => ?_)
          obtain ⟨rfl, rfl⟩ : a9 = r7.1 ∧ u9 = r7.2 := ⟨congrArg Prod.fst h9, congrArg Prod.snd h9⟩
          refine av_iload K d_L_law_209 rfl ?_
          refine av_icmp_eq (tgt := 216) K d_L_law_211 rfl (fun hc => ?_) (fun hc => ?_)
          · rw [if_pos hc] at h
            refine av_iload K d_L_law_216 rfl ?_
            refine av_if_ne (tgt := 233) K d_L_law_218 rfl (fun hc => ?_) (fun hc => ?_)
            · rw [if_neg hc] at h
              refine hv_fg (L' := [some (.retAddr sc), some (.ref v1), some (.ref v2), some (.ref v3), some (.int v4), none, none, none]) [5, 6] rfl ?_
              exact v_L_law_233 K G X N hl S hr hA fu (f_L_law_23 fu xs Ln n) ih (v1) (v2) (v3) (v4) _ _ _ (by omega) (by omega) h
            · rw [if_pos hc] at h
              refine av_aload_n K d_L_law_221 rfl rfl ?_
              refine av_iconst (v := (0 : Int32)) K d_L_law_222 (by decide) ?_
              obtain ⟨y8, ey8, h⟩ := hp_bd h
              refine hv_rl K d_L_law_223 ey8 ?_
              refine av_iload K d_L_law_224 rfl ?_
              refine av_i2l K d_L_law_226 ?_
              refine av_lcmp K d_L_law_227 ?_
              refine av_if_eq (tgt := 233) K d_L_law_228 rfl (fun hc => ?_) (fun hc => ?_)
              · rw [if_pos hc] at h
                refine hv_fg (L' := [some (.retAddr sc), some (.ref v1), some (.ref v2), some (.ref v3), some (.int v4), none, none, none]) [5, 6] rfl ?_
                exact v_L_law_233 K G X N hl S hr hA fu (f_L_law_23 fu xs Ln n) ih (v1) (v2) (v3) (v4) _ _ _ (by omega) (by omega) h
              · rw [if_neg hc] at h
                refine av_iconst (v := (0 : Int32)) K d_L_law_231 (by decide) ?_
                obtain ⟨hz, h⟩ := hp_if h
                exact absurd hz (by decide)
          · rw [if_neg hc] at h
            refine av_iconst (v := (0 : Int32)) K d_L_law_214 (by decide) ?_
            obtain ⟨hz, h⟩ := hp_if h
            exact absurd hz (by decide)
        · rw [if_neg hs39_1] at h
          by_cases hs39_2 : ((xs (v4).toNatClampNeg) &&& (15 : Int32)) = (2 : Int32)
          · rw [if_pos hs39_2] at h
            refine av_tswI (tgt := 236) K d_L_law_39 (by rw [hs39_2]; decide) (by rw [hs39_2]; decide) (by rw [hs39_2]; rfl) rfl ?_
            refine av_aload_n K d_L_law_236 rfl rfl ?_
            refine av_aloadR K d_L_law_237 rfl rfl ?_
            refine av_iload K d_L_law_238 rfl ?_
            refine av_iconst (v := (1 : Int32)) K d_L_law_240 (by decide) ?_
            refine av_iadd K d_L_law_241 ?_
            obtain ⟨hi242, h⟩ := hp_if h
            refine av_sld K S d_L_law_242 hi242 ?_
            refine av_aloadR K d_L_law_243 rfl rfl ?_
            refine av_iload K d_L_law_244 rfl ?_
            refine av_iconst (v := (2 : Int32)) K d_L_law_246 (by decide) ?_
            refine av_iadd K d_L_law_247 ?_
            obtain ⟨hi248, h⟩ := hp_if h
            refine av_sld K S d_L_law_248 hi248 ?_
            refine av_aload_n K d_L_law_249 rfl rfl ?_
            obtain ⟨r9, er9, h⟩ := hp_bd h
            refine av_cH K G X N (c_L_hold hl er9) (vx_cwSW 4 K.2.2.2.2.1 (gSU ml_L_86 sm_L_hold in_L co_L_hold) rfl rfl rfl ce_L_hold ⟨(Nat.le_of_ble_eq_true rfl), (Nat.le_of_ble_eq_true rfl)⟩) rfl rfl (Nat.le_of_ble_eq_true rfl) d_L_law_250 ⟨show _ ≤ 601024 by omega, show _ ≤ 7293034 by omega⟩ (fun a9 u9 h9 => ?_)
            obtain ⟨rfl, rfl⟩ : a9 = r9.1 ∧ u9 = r9.2 := ⟨congrArg Prod.fst h9, congrArg Prod.snd h9⟩
            refine av_istore (L' := [some (.retAddr sc), some (.ref v1), some (.ref v2), some (.ref v3), some (.int v4), some (.int r9.1), none, none]) K d_L_law_253 (Nat.le_of_ble_eq_true rfl) rfl ?_
            refine av_aload_n K d_L_law_255 rfl rfl ?_
            refine av_aloadR K d_L_law_256 rfl rfl ?_
            refine av_iload K d_L_law_257 rfl ?_
            refine av_iconst (v := (1 : Int32)) K d_L_law_259 (by decide) ?_
            refine av_iadd K d_L_law_260 ?_
            obtain ⟨hi261, h⟩ := hp_if h
            refine av_sld K S d_L_law_261 hi261 ?_
            refine av_aloadR K d_L_law_262 rfl rfl ?_
            refine av_iload K d_L_law_263 rfl ?_
            refine av_iconst (v := (2 : Int32)) K d_L_law_265 (by decide) ?_
            refine av_iadd K d_L_law_266 ?_
            obtain ⟨hi267, h⟩ := hp_if h
            refine av_sld K S d_L_law_267 hi267 ?_
            obtain ⟨_, eo268, h⟩ := hp_bd h
            obtain ⟨r10, er10, h⟩ := hp_bd h
            obtain ⟨fs268, ho268⟩ := hp_is_of eo268
            refine av_cVi K G (c_M_hold (tab := tabON) er10) (cwV 2 K.2.2.2.2.1 (gV ml_L_88 im_M_hold se_M_hold in_M co_M_hold) rfl rfl rfl cd_M_hold ⟨Nat.le_of_ble_eq_true rfl, Nat.le_of_ble_eq_true rfl⟩) rfl ho268 rfl rfl (Nat.le_of_ble_eq_true rfl) d_L_law_268 ⟨show _ ≤ 601024 by omega, show _ ≤ 7293034 by omega⟩ (fun a9 u9 h9 => ?_)
            obtain ⟨rfl, rfl⟩ : a9 = r10.1 ∧ u9 = r10.2 := ⟨congrArg Prod.fst h9, congrArg Prod.snd h9⟩
            refine av_istore (L' := [some (.retAddr sc), some (.ref v1), some (.ref v2), some (.ref v3), some (.int v4), some (.int r9.1), some (.int r10.1), none]) K d_L_law_271 (Nat.le_of_ble_eq_true rfl) rfl ?_
            refine av_aload_n K d_L_law_273 rfl rfl ?_
            obtain ⟨_, eo274, h⟩ := hp_bd h
            obtain ⟨r11, er11, h⟩ := hp_bd h
            obtain ⟨fs274, ho274⟩ := hp_is_of eo274
            refine av_cVi K G (c_M_thrown (tab := tabON) er11) (cwV 0 K.2.2.2.2.1 (gV ml_L_79 im_M_thrown se_M_thrown in_M co_M_thrown) rfl rfl rfl cd_M_thrown ⟨Nat.le_of_ble_eq_true rfl, Nat.le_of_ble_eq_true rfl⟩) rfl ho274 rfl rfl (Nat.le_of_ble_eq_true rfl) d_L_law_274 ⟨show _ ≤ 601024 by omega, show _ ≤ 7293034 by omega⟩ (fun a9 u9 h9 => ?_)
            obtain ⟨rfl, rfl⟩ : a9 = r11.1 ∧ u9 = r11.2 := ⟨congrArg Prod.fst h9, congrArg Prod.snd h9⟩
            refine av_iload K d_L_law_277 rfl ?_
            refine av_icmp_eq (tgt := 284) K d_L_law_279 rfl (fun hc => ?_) (fun hc => ?_)
            · rw [if_pos hc] at h
              refine av_iload K d_L_law_284 rfl ?_
              refine av_if_ne (tgt := 301) K d_L_law_286 rfl (fun hc => ?_) (fun hc => ?_)
              · rw [if_neg hc] at h
                refine hv_fg (L' := [some (.retAddr sc), some (.ref v1), some (.ref v2), some (.ref v3), some (.int v4), none, none, none]) [5, 6] rfl ?_
                exact v_L_law_301 K G X N hl S hr hA fu (f_L_law_23 fu xs Ln n) ih (v1) (v2) (v3) (v4) _ _ _ (by omega) (by omega) h
              · rw [if_pos hc] at h
                refine av_aload_n K d_L_law_289 rfl rfl ?_
                refine av_iconst (v := (0 : Int32)) K d_L_law_290 (by decide) ?_
                obtain ⟨y12, ey12, h⟩ := hp_bd h
                refine hv_rl K d_L_law_291 ey12 ?_
                refine av_iload K d_L_law_292 rfl ?_
                refine av_i2l K d_L_law_294 ?_
                refine av_lcmp K d_L_law_295 ?_
                refine av_if_eq (tgt := 301) K d_L_law_296 rfl (fun hc => ?_) (fun hc => ?_)
                · rw [if_pos hc] at h
                  refine hv_fg (L' := [some (.retAddr sc), some (.ref v1), some (.ref v2), some (.ref v3), some (.int v4), none, none, none]) [5, 6] rfl ?_
                  exact v_L_law_301 K G X N hl S hr hA fu (f_L_law_23 fu xs Ln n) ih (v1) (v2) (v3) (v4) _ _ _ (by omega) (by omega) h
                · rw [if_neg hc] at h
                  refine av_iconst (v := (0 : Int32)) K d_L_law_299 (by decide) ?_
                  obtain ⟨hz, h⟩ := hp_if h
                  exact absurd hz (by decide)
            · rw [if_neg hc] at h
              refine av_iconst (v := (0 : Int32)) K d_L_law_282 (by decide) ?_
              obtain ⟨hz, h⟩ := hp_if h
              exact absurd hz (by decide)
          · rw [if_neg hs39_2] at h
            by_cases hs39_3 : ((xs (v4).toNatClampNeg) &&& (15 : Int32)) = (3 : Int32)
            · rw [if_pos hs39_3] at h
              refine av_tswI (tgt := 304) K d_L_law_39 (by rw [hs39_3]; decide) (by rw [hs39_3]; decide) (by rw [hs39_3]; rfl) rfl ?_
              refine av_aload_n K d_L_law_304 rfl rfl ?_
              refine av_aloadR K d_L_law_305 rfl rfl ?_
              refine av_iload K d_L_law_306 rfl ?_
              refine av_iconst (v := (1 : Int32)) K d_L_law_308 (by decide) ?_
              refine av_iadd K d_L_law_309 ?_
              obtain ⟨hi310, h⟩ := hp_if h
              refine av_sld K S d_L_law_310 hi310 ?_
              refine av_aloadR K d_L_law_311 rfl rfl ?_
              refine av_iload K d_L_law_312 rfl ?_
              refine av_iconst (v := (2 : Int32)) K d_L_law_314 (by decide) ?_
              refine av_iadd K d_L_law_315 ?_
              obtain ⟨hi316, h⟩ := hp_if h
              refine av_sld K S d_L_law_316 hi316 ?_
              refine av_aload_n K d_L_law_317 rfl rfl ?_
              obtain ⟨r13, er13, h⟩ := hp_bd h
              refine av_cH K G X N (c_L_gate hl er13) (vx_cwSW 4 K.2.2.2.2.1 (gSU ml_L_89 sm_L_gate in_L co_L_gate) rfl rfl rfl ce_L_gate ⟨(Nat.le_of_ble_eq_true rfl), (Nat.le_of_ble_eq_true rfl)⟩) rfl rfl (Nat.le_of_ble_eq_true rfl) d_L_law_318 ⟨show _ ≤ 601024 by omega, show _ ≤ 7293034 by omega⟩ (fun a9 u9 h9 => ?_)
              obtain ⟨rfl, rfl⟩ : a9 = r13.1 ∧ u9 = r13.2 := ⟨congrArg Prod.fst h9, congrArg Prod.snd h9⟩
              refine av_istore (L' := [some (.retAddr sc), some (.ref v1), some (.ref v2), some (.ref v3), some (.int v4), some (.int r13.1), none, none]) K d_L_law_321 (Nat.le_of_ble_eq_true rfl) rfl ?_
              refine av_aload_n K d_L_law_323 rfl rfl ?_
              refine av_aloadR K d_L_law_324 rfl rfl ?_
              refine av_iload K d_L_law_325 rfl ?_
              refine av_iconst (v := (1 : Int32)) K d_L_law_327 (by decide) ?_
              refine av_iadd K d_L_law_328 ?_
              obtain ⟨hi329, h⟩ := hp_if h
              refine av_sld K S d_L_law_329 hi329 ?_
              refine av_aloadR K d_L_law_330 rfl rfl ?_
              refine av_iload K d_L_law_331 rfl ?_
              refine av_iconst (v := (2 : Int32)) K d_L_law_333 (by decide) ?_
              refine av_iadd K d_L_law_334 ?_
              obtain ⟨hi335, h⟩ := hp_if h
              refine av_sld K S d_L_law_335 hi335 ?_
              obtain ⟨_, eo336, h⟩ := hp_bd h
              obtain ⟨r14, er14, h⟩ := hp_bd h
              obtain ⟨fs336, ho336⟩ := hp_is_of eo336
              refine av_cVi K G (c_M_gate (tab := tabON) er14) (cwV 2 K.2.2.2.2.1 (gV ml_L_91 im_M_gate se_M_gate in_M co_M_gate) rfl rfl rfl cd_M_gate ⟨Nat.le_of_ble_eq_true rfl, Nat.le_of_ble_eq_true rfl⟩) rfl ho336 rfl rfl (Nat.le_of_ble_eq_true rfl) d_L_law_336 ⟨show _ ≤ 601024 by omega, show _ ≤ 7293034 by omega⟩ (fun a9 u9 h9 => ?_)
              obtain ⟨rfl, rfl⟩ : a9 = r14.1 ∧ u9 = r14.2 := ⟨congrArg Prod.fst h9, congrArg Prod.snd h9⟩
              refine av_istore (L' := [some (.retAddr sc), some (.ref v1), some (.ref v2), some (.ref v3), some (.int v4), some (.int r13.1), some (.int r14.1), none]) K d_L_law_339 (Nat.le_of_ble_eq_true rfl) rfl ?_
              refine av_aload_n K d_L_law_341 rfl rfl ?_
              obtain ⟨_, eo342, h⟩ := hp_bd h
              obtain ⟨r15, er15, h⟩ := hp_bd h
              obtain ⟨fs342, ho342⟩ := hp_is_of eo342
              refine av_cVi K G (c_M_thrown (tab := tabON) er15) (cwV 0 K.2.2.2.2.1 (gV ml_L_79 im_M_thrown se_M_thrown in_M co_M_thrown) rfl rfl rfl cd_M_thrown ⟨Nat.le_of_ble_eq_true rfl, Nat.le_of_ble_eq_true rfl⟩) rfl ho342 rfl rfl (Nat.le_of_ble_eq_true rfl) d_L_law_342 ⟨show _ ≤ 601024 by omega, show _ ≤ 7293034 by omega⟩ (fun a9 u9 h9 => ?_)
              obtain ⟨rfl, rfl⟩ : a9 = r15.1 ∧ u9 = r15.2 := ⟨congrArg Prod.fst h9, congrArg Prod.snd h9⟩
              refine av_iload K d_L_law_345 rfl ?_
              refine av_icmp_eq (tgt := 352) K d_L_law_347 rfl (fun hc => ?_) (fun hc => ?_)
              · rw [if_pos hc] at h
                refine av_iload K d_L_law_352 rfl ?_
                refine av_if_ne (tgt := 369) K d_L_law_354 rfl (fun hc => ?_) (fun hc => ?_)
                · rw [if_neg hc] at h
                  refine hv_fg (L' := [some (.retAddr sc), some (.ref v1), some (.ref v2), some (.ref v3), some (.int v4), none, none, none]) [5, 6] rfl ?_
                  exact v_L_law_369 K G X N hl S hr hA fu (f_L_law_23 fu xs Ln n) ih (v1) (v2) (v3) (v4) _ _ _ (by omega) (by omega) h
                · rw [if_pos hc] at h
                  refine av_aload_n K d_L_law_357 rfl rfl ?_
                  refine av_iconst (v := (0 : Int32)) K d_L_law_358 (by decide) ?_
                  obtain ⟨y16, ey16, h⟩ := hp_bd h
                  refine hv_rl K d_L_law_359 ey16 ?_
                  refine av_iload K d_L_law_360 rfl ?_
                  refine av_i2l K d_L_law_362 ?_
                  refine av_lcmp K d_L_law_363 ?_
                  refine av_if_eq (tgt := 369) K d_L_law_364 rfl (fun hc => ?_) (fun hc => ?_)
                  · rw [if_pos hc] at h
                    refine hv_fg (L' := [some (.retAddr sc), some (.ref v1), some (.ref v2), some (.ref v3), some (.int v4), none, none, none]) [5, 6] rfl ?_
                    exact v_L_law_369 K G X N hl S hr hA fu (f_L_law_23 fu xs Ln n) ih (v1) (v2) (v3) (v4) _ _ _ (by omega) (by omega) h
                  · rw [if_neg hc] at h
                    refine av_iconst (v := (0 : Int32)) K d_L_law_367 (by decide) ?_
                    obtain ⟨hz, h⟩ := hp_if h
                    exact absurd hz (by decide)
              · rw [if_neg hc] at h
                refine av_iconst (v := (0 : Int32)) K d_L_law_350 (by decide) ?_
                obtain ⟨hz, h⟩ := hp_if h
                exact absurd hz (by decide)
            · rw [if_neg hs39_3] at h
              by_cases hs39_4 : ((xs (v4).toNatClampNeg) &&& (15 : Int32)) = (4 : Int32)
              · rw [if_pos hs39_4] at h
                refine av_tswI (tgt := 372) K d_L_law_39 (by rw [hs39_4]; decide) (by rw [hs39_4]; decide) (by rw [hs39_4]; rfl) rfl ?_
                refine av_aload_n K d_L_law_372 rfl rfl ?_
                refine av_aloadR K d_L_law_373 rfl rfl ?_
                refine av_iload K d_L_law_374 rfl ?_
                refine av_iconst (v := (1 : Int32)) K d_L_law_376 (by decide) ?_
                refine av_iadd K d_L_law_377 ?_
                obtain ⟨hi378, h⟩ := hp_if h
                refine av_sld K S d_L_law_378 hi378 ?_
                refine av_aloadR K d_L_law_379 rfl rfl ?_
                refine av_iload K d_L_law_380 rfl ?_
                refine av_iconst (v := (2 : Int32)) K d_L_law_382 (by decide) ?_
                refine av_iadd K d_L_law_383 ?_
                obtain ⟨hi384, h⟩ := hp_if h
                refine av_sld K S d_L_law_384 hi384 ?_
                refine av_aload_n K d_L_law_385 rfl rfl ?_
                obtain ⟨r17, er17, h⟩ := hp_bd h
                refine av_cH K G X N (c_L_input hl er17) (vx_cwSW 4 K.2.2.2.2.1 (gSU ml_L_92 sm_L_input in_L co_L_input) rfl rfl rfl ce_L_input ⟨(Nat.le_of_ble_eq_true rfl), (Nat.le_of_ble_eq_true rfl)⟩) rfl rfl (Nat.le_of_ble_eq_true rfl) d_L_law_386 ⟨show _ ≤ 601024 by omega, show _ ≤ 7293034 by omega⟩ (fun a9 u9 h9 => ?_)
                obtain ⟨rfl, rfl⟩ : a9 = r17.1 ∧ u9 = r17.2 := ⟨congrArg Prod.fst h9, congrArg Prod.snd h9⟩
                refine av_istore (L' := [some (.retAddr sc), some (.ref v1), some (.ref v2), some (.ref v3), some (.int v4), some (.int r17.1), none, none]) K d_L_law_389 (Nat.le_of_ble_eq_true rfl) rfl ?_
                refine av_aload_n K d_L_law_391 rfl rfl ?_
                refine av_aloadR K d_L_law_392 rfl rfl ?_
                refine av_iload K d_L_law_393 rfl ?_
                refine av_iconst (v := (1 : Int32)) K d_L_law_395 (by decide) ?_
                refine av_iadd K d_L_law_396 ?_
                obtain ⟨hi397, h⟩ := hp_if h
                refine av_sld K S d_L_law_397 hi397 ?_
                refine av_aloadR K d_L_law_398 rfl rfl ?_
                refine av_iload K d_L_law_399 rfl ?_
                refine av_iconst (v := (2 : Int32)) K d_L_law_401 (by decide) ?_
                refine av_iadd K d_L_law_402 ?_
                obtain ⟨hi403, h⟩ := hp_if h
                refine av_sld K S d_L_law_403 hi403 ?_
                obtain ⟨_, eo404, h⟩ := hp_bd h
                obtain ⟨r18, er18, h⟩ := hp_bd h
                obtain ⟨fs404, ho404⟩ := hp_is_of eo404
                refine av_cVi K G (c_M_input (tab := tabON) er18) (cwV 2 K.2.2.2.2.1 (gV ml_L_94 im_M_input se_M_input in_M co_M_input) rfl rfl rfl cd_M_input ⟨Nat.le_of_ble_eq_true rfl, Nat.le_of_ble_eq_true rfl⟩) rfl ho404 rfl rfl (Nat.le_of_ble_eq_true rfl) d_L_law_404 ⟨show _ ≤ 601024 by omega, show _ ≤ 7293034 by omega⟩ (fun a9 u9 h9 => ?_)
                obtain ⟨rfl, rfl⟩ : a9 = r18.1 ∧ u9 = r18.2 := ⟨congrArg Prod.fst h9, congrArg Prod.snd h9⟩
                refine av_istore (L' := [some (.retAddr sc), some (.ref v1), some (.ref v2), some (.ref v3), some (.int v4), some (.int r17.1), some (.int r18.1), none]) K d_L_law_407 (Nat.le_of_ble_eq_true rfl) rfl ?_
                refine av_aload_n K d_L_law_409 rfl rfl ?_
                obtain ⟨_, eo410, h⟩ := hp_bd h
                obtain ⟨r19, er19, h⟩ := hp_bd h
                obtain ⟨fs410, ho410⟩ := hp_is_of eo410
                refine av_cVi K G (c_M_thrown (tab := tabON) er19) (cwV 0 K.2.2.2.2.1 (gV ml_L_79 im_M_thrown se_M_thrown in_M co_M_thrown) rfl rfl rfl cd_M_thrown ⟨Nat.le_of_ble_eq_true rfl, Nat.le_of_ble_eq_true rfl⟩) rfl ho410 rfl rfl (Nat.le_of_ble_eq_true rfl) d_L_law_410 ⟨show _ ≤ 601024 by omega, show _ ≤ 7293034 by omega⟩ (fun a9 u9 h9 => ?_)
                obtain ⟨rfl, rfl⟩ : a9 = r19.1 ∧ u9 = r19.2 := ⟨congrArg Prod.fst h9, congrArg Prod.snd h9⟩
                refine av_iload K d_L_law_413 rfl ?_
                refine av_icmp_eq (tgt := 420) K d_L_law_415 rfl (fun hc => ?_) (fun hc => ?_)
                · rw [if_pos hc] at h
                  refine av_iload K d_L_law_420 rfl ?_
                  refine av_if_ne (tgt := 437) K d_L_law_422 rfl (fun hc => ?_) (fun hc => ?_)
                  · rw [if_neg hc] at h
                    refine hv_fg (L' := [some (.retAddr sc), some (.ref v1), some (.ref v2), some (.ref v3), some (.int v4), none, none, none]) [5, 6] rfl ?_
                    exact v_L_law_437 K G X N hl S hr hA fu (f_L_law_23 fu xs Ln n) ih (v1) (v2) (v3) (v4) _ _ _ (by omega) (by omega) h
                  · rw [if_pos hc] at h
                    refine av_aload_n K d_L_law_425 rfl rfl ?_
                    refine av_iconst (v := (0 : Int32)) K d_L_law_426 (by decide) ?_
                    obtain ⟨y20, ey20, h⟩ := hp_bd h
                    refine hv_rl K d_L_law_427 ey20 ?_
                    refine av_iload K d_L_law_428 rfl ?_
                    refine av_i2l K d_L_law_430 ?_
                    refine av_lcmp K d_L_law_431 ?_
                    refine av_if_eq (tgt := 437) K d_L_law_432 rfl (fun hc => ?_) (fun hc => ?_)
                    · rw [if_pos hc] at h
                      refine hv_fg (L' := [some (.retAddr sc), some (.ref v1), some (.ref v2), some (.ref v3), some (.int v4), none, none, none]) [5, 6] rfl ?_
                      exact v_L_law_437 K G X N hl S hr hA fu (f_L_law_23 fu xs Ln n) ih (v1) (v2) (v3) (v4) _ _ _ (by omega) (by omega) h
                    · rw [if_neg hc] at h
                      refine av_iconst (v := (0 : Int32)) K d_L_law_435 (by decide) ?_
                      obtain ⟨hz, h⟩ := hp_if h
                      exact absurd hz (by decide)
                · rw [if_neg hc] at h
                  refine av_iconst (v := (0 : Int32)) K d_L_law_418 (by decide) ?_
                  obtain ⟨hz, h⟩ := hp_if h
                  exact absurd hz (by decide)
              · rw [if_neg hs39_4] at h
                by_cases hs39_5 : ((xs (v4).toNatClampNeg) &&& (15 : Int32)) = (5 : Int32)
                · rw [if_pos hs39_5] at h
                  refine av_tswI (tgt := 440) K d_L_law_39 (by rw [hs39_5]; decide) (by rw [hs39_5]; decide) (by rw [hs39_5]; rfl) rfl ?_
                  refine av_aload_n K d_L_law_440 rfl rfl ?_
                  refine av_aloadR K d_L_law_441 rfl rfl ?_
                  refine av_iload K d_L_law_442 rfl ?_
                  refine av_iconst (v := (1 : Int32)) K d_L_law_444 (by decide) ?_
                  refine av_iadd K d_L_law_445 ?_
                  obtain ⟨hi446, h⟩ := hp_if h
                  refine av_sld K S d_L_law_446 hi446 ?_
                  obtain ⟨r21, er21, h⟩ := hp_bd h
                  refine av_cH K G X N (c_L_top hl er21) (vx_cwSW 2 K.2.2.2.2.1 (gSU ml_L_95 sm_L_top in_L co_L_top) rfl rfl rfl ce_L_top ⟨(Nat.le_of_ble_eq_true rfl), (Nat.le_of_ble_eq_true rfl)⟩) rfl rfl (Nat.le_of_ble_eq_true rfl) d_L_law_447 ⟨show _ ≤ 601024 by omega, show _ ≤ 7293034 by omega⟩ (fun a9 u9 h9 => ?_)
                  obtain ⟨rfl, rfl⟩ : a9 = r21.1 ∧ u9 = r21.2 := ⟨congrArg Prod.fst h9, congrArg Prod.snd h9⟩
                  refine av_istore (L' := [some (.retAddr sc), some (.ref v1), some (.ref v2), some (.ref v3), some (.int v4), some (.int r21.1), none, none]) K d_L_law_450 (Nat.le_of_ble_eq_true rfl) rfl ?_
                  refine av_aload_n K d_L_law_452 rfl rfl ?_
                  refine av_aloadR K d_L_law_453 rfl rfl ?_
                  refine av_iload K d_L_law_454 rfl ?_
                  refine av_iconst (v := (1 : Int32)) K d_L_law_456 (by decide) ?_
                  refine av_iadd K d_L_law_457 ?_
                  obtain ⟨hi458, h⟩ := hp_if h
                  refine av_sld K S d_L_law_458 hi458 ?_
                  obtain ⟨_, eo459, h⟩ := hp_bd h
                  obtain ⟨r22, er22, h⟩ := hp_bd h
                  obtain ⟨fs459, ho459⟩ := hp_is_of eo459
                  refine av_cVv K G (c_M_top (tab := tabON) er22) (cwV 1 K.2.2.2.2.1 (gV ml_L_98 im_M_top se_M_top in_M co_M_top) rfl rfl rfl cd_M_top ⟨Nat.le_of_ble_eq_true rfl, Nat.le_of_ble_eq_true rfl⟩) rfl ho459 rfl rfl (Nat.le_of_ble_eq_true rfl) d_L_law_459 ⟨show _ ≤ 601024 by omega, show _ ≤ 7293034 by omega⟩ (fun u9 h9 => ?_)
                  subst h9
                  refine av_aload_n K d_L_law_462 rfl rfl ?_
                  obtain ⟨_, eo463, h⟩ := hp_bd h
                  obtain ⟨r23, er23, h⟩ := hp_bd h
                  obtain ⟨fs463, ho463⟩ := hp_is_of eo463
                  refine av_cVi K G (c_M_thrown (tab := tabON) er23) (cwV 0 K.2.2.2.2.1 (gV ml_L_79 im_M_thrown se_M_thrown in_M co_M_thrown) rfl rfl rfl cd_M_thrown ⟨Nat.le_of_ble_eq_true rfl, Nat.le_of_ble_eq_true rfl⟩) rfl ho463 rfl rfl (Nat.le_of_ble_eq_true rfl) d_L_law_463 ⟨show _ ≤ 601024 by omega, show _ ≤ 7293034 by omega⟩ (fun a9 u9 h9 => ?_)
                  obtain ⟨rfl, rfl⟩ : a9 = r23.1 ∧ u9 = r23.2 := ⟨congrArg Prod.fst h9, congrArg Prod.snd h9⟩
                  refine av_iload K d_L_law_466 rfl ?_
                  refine av_icmp_eq (tgt := 473) K d_L_law_468 rfl (fun hc => ?_) (fun hc => ?_)
                  · rw [if_pos hc] at h
                    refine av_goto (tgt := 961) K d_L_law_473 rfl ?_
                    refine hv_fg (L' := [some (.retAddr sc), some (.ref v1), some (.ref v2), some (.ref v3), some (.int v4), none, none, none]) [5] rfl ?_
                    exact v_L_law_961 K G X N hl S hr hA fu (f_L_law_23 fu xs Ln n) ih (v1) (v2) (v3) (v4) _ _ _ (by omega) (by omega) h
                  · rw [if_neg hc] at h
                    refine av_iconst (v := (0 : Int32)) K d_L_law_471 (by decide) ?_
                    obtain ⟨hz, h⟩ := hp_if h
                    exact absurd hz (by decide)
                · rw [if_neg hs39_5] at h
                  by_cases hs39_6 : ((xs (v4).toNatClampNeg) &&& (15 : Int32)) = (6 : Int32)
                  · rw [if_pos hs39_6] at h
                    refine av_tswI (tgt := 476) K d_L_law_39 (by rw [hs39_6]; decide) (by rw [hs39_6]; decide) (by rw [hs39_6]; rfl) rfl ?_
                    refine av_aload_n K d_L_law_476 rfl rfl ?_
                    refine av_aloadR K d_L_law_477 rfl rfl ?_
                    refine av_iload K d_L_law_478 rfl ?_
                    refine av_iconst (v := (1 : Int32)) K d_L_law_480 (by decide) ?_
                    refine av_iadd K d_L_law_481 ?_
                    obtain ⟨hi482, h⟩ := hp_if h
                    refine av_sld K S d_L_law_482 hi482 ?_
                    refine av_aload_n K d_L_law_483 rfl rfl ?_
                    obtain ⟨r24, er24, h⟩ := hp_bd h
                    refine av_cH K G X N (c_L_value hl er24) (vx_cwSW 3 K.2.2.2.2.1 (gSU ml_L_99 sm_L_value in_L co_L_value) rfl rfl rfl ce_L_value ⟨(Nat.le_of_ble_eq_true rfl), (Nat.le_of_ble_eq_true rfl)⟩) rfl rfl (Nat.le_of_ble_eq_true rfl) d_L_law_484 ⟨show _ ≤ 601024 by omega, show _ ≤ 7293034 by omega⟩ (fun a9 u9 h9 => ?_)
                    obtain ⟨rfl, rfl⟩ : a9 = r24.1 ∧ u9 = r24.2 := ⟨congrArg Prod.fst h9, congrArg Prod.snd h9⟩
                    refine av_istore (L' := [some (.retAddr sc), some (.ref v1), some (.ref v2), some (.ref v3), some (.int v4), some (.int r24.1), none, none]) K d_L_law_487 (Nat.le_of_ble_eq_true rfl) rfl ?_
                    refine av_aload_n K d_L_law_489 rfl rfl ?_
                    refine av_aloadR K d_L_law_490 rfl rfl ?_
                    refine av_iload K d_L_law_491 rfl ?_
                    refine av_iconst (v := (1 : Int32)) K d_L_law_493 (by decide) ?_
                    refine av_iadd K d_L_law_494 ?_
                    obtain ⟨hi495, h⟩ := hp_if h
                    refine av_sld K S d_L_law_495 hi495 ?_
                    obtain ⟨_, eo496, h⟩ := hp_bd h
                    obtain ⟨r25, er25, h⟩ := hp_bd h
                    obtain ⟨fs496, ho496⟩ := hp_is_of eo496
                    refine av_cVi K G (c_M_value (tab := tabON) er25) (cwV 1 K.2.2.2.2.1 (gV ml_L_101 im_M_value se_M_value in_M co_M_value) rfl rfl rfl cd_M_value ⟨Nat.le_of_ble_eq_true rfl, Nat.le_of_ble_eq_true rfl⟩) rfl ho496 rfl rfl (Nat.le_of_ble_eq_true rfl) d_L_law_496 ⟨show _ ≤ 601024 by omega, show _ ≤ 7293034 by omega⟩ (fun a9 u9 h9 => ?_)
                    obtain ⟨rfl, rfl⟩ : a9 = r25.1 ∧ u9 = r25.2 := ⟨congrArg Prod.fst h9, congrArg Prod.snd h9⟩
                    refine av_istore (L' := [some (.retAddr sc), some (.ref v1), some (.ref v2), some (.ref v3), some (.int v4), some (.int r24.1), some (.int r25.1), none]) K d_L_law_499 (Nat.le_of_ble_eq_true rfl) rfl ?_
                    refine av_aload_n K d_L_law_501 rfl rfl ?_
                    obtain ⟨_, eo502, h⟩ := hp_bd h
                    obtain ⟨r26, er26, h⟩ := hp_bd h
                    obtain ⟨fs502, ho502⟩ := hp_is_of eo502
                    refine av_cVi K G (c_M_thrown (tab := tabON) er26) (cwV 0 K.2.2.2.2.1 (gV ml_L_79 im_M_thrown se_M_thrown in_M co_M_thrown) rfl rfl rfl cd_M_thrown ⟨Nat.le_of_ble_eq_true rfl, Nat.le_of_ble_eq_true rfl⟩) rfl ho502 rfl rfl (Nat.le_of_ble_eq_true rfl) d_L_law_502 ⟨show _ ≤ 601024 by omega, show _ ≤ 7293034 by omega⟩ (fun a9 u9 h9 => ?_)
                    obtain ⟨rfl, rfl⟩ : a9 = r26.1 ∧ u9 = r26.2 := ⟨congrArg Prod.fst h9, congrArg Prod.snd h9⟩
                    refine av_iload K d_L_law_505 rfl ?_
                    refine av_icmp_eq (tgt := 512) K d_L_law_507 rfl (fun hc => ?_) (fun hc => ?_)
                    · rw [if_pos hc] at h
                      refine av_iload K d_L_law_512 rfl ?_
                      refine av_if_ne (tgt := 536) K d_L_law_514 rfl (fun hc => ?_) (fun hc => ?_)
                      · rw [if_neg hc] at h
                        refine hv_fg (L' := [some (.retAddr sc), some (.ref v1), some (.ref v2), some (.ref v3), some (.int v4), none, none, none]) [5, 6] rfl ?_
                        exact v_L_law_536 K G X N hl S hr hA fu (f_L_law_23 fu xs Ln n) ih (v1) (v2) (v3) (v4) _ _ _ (by omega) (by omega) h
                      · rw [if_pos hc] at h
                        refine av_aload_n K d_L_law_517 rfl rfl ?_
                        refine av_iconst (v := (0 : Int32)) K d_L_law_518 (by decide) ?_
                        obtain ⟨y27, ey27, h⟩ := hp_bd h
                        refine hv_rl K d_L_law_519 ey27 ?_
                        refine av_iload K d_L_law_520 rfl ?_
                        refine av_if_eq (tgt := 529) K d_L_law_522 rfl (fun hc => ?_) (fun hc => ?_)
                        · rw [if_pos hc] at h
                          refine av_lconst (v := (0 : Int64)) K d_L_law_529 (by decide) ?_
                          refine hv_fg (L' := [some (.retAddr sc), some (.ref v1), some (.ref v2), some (.ref v3), some (.int v4), none, none, none]) [5, 6] rfl ?_
                          exact v_L_law_530 K G X N hl S hr hA fu (f_L_law_23 fu xs Ln n) ih (v1) (v2) (v3) (v4) (y27) ((0 : Int64)) _ _ _ (by omega) (by omega) h
                        · rw [if_neg hc] at h
                          refine av_lconst (v := (1 : Int64)) K d_L_law_525 (by decide) ?_
                          refine av_goto (tgt := 530) K d_L_law_526 rfl ?_
                          refine hv_fg (L' := [some (.retAddr sc), some (.ref v1), some (.ref v2), some (.ref v3), some (.int v4), none, none, none]) [5, 6] rfl ?_
                          exact v_L_law_530 K G X N hl S hr hA fu (f_L_law_23 fu xs Ln n) ih (v1) (v2) (v3) (v4) (y27) ((1 : Int64)) _ _ _ (by omega) (by omega) h
                    · rw [if_neg hc] at h
                      refine av_iconst (v := (0 : Int32)) K d_L_law_510 (by decide) ?_
                      obtain ⟨hz, h⟩ := hp_if h
                      exact absurd hz (by decide)
                  · rw [if_neg hs39_6] at h
                    by_cases hs39_7 : ((xs (v4).toNatClampNeg) &&& (15 : Int32)) = (7 : Int32)
                    · rw [if_pos hs39_7] at h
                      refine av_tswI (tgt := 539) K d_L_law_39 (by rw [hs39_7]; decide) (by rw [hs39_7]; decide) (by rw [hs39_7]; rfl) rfl ?_
                      refine av_aload_n K d_L_law_539 rfl rfl ?_
                      refine av_aload_n K d_L_law_540 rfl rfl ?_
                      obtain ⟨r28, er28, h⟩ := hp_bd h
                      refine av_cH K G X N (c_L_odds hl er28) (vx_cwSW 2 K.2.2.2.2.1 (gSU ml_L_102 sm_L_odds in_L co_L_odds) rfl rfl rfl ce_L_odds ⟨(Nat.le_of_ble_eq_true rfl), (Nat.le_of_ble_eq_true rfl)⟩) rfl rfl (Nat.le_of_ble_eq_true rfl) d_L_law_541 ⟨show _ ≤ 601024 by omega, show _ ≤ 7293034 by omega⟩ (fun a9 u9 h9 => ?_)
                      obtain ⟨rfl, rfl⟩ : a9 = r28.1 ∧ u9 = r28.2 := ⟨congrArg Prod.fst h9, congrArg Prod.snd h9⟩
                      refine av_istore (L' := [some (.retAddr sc), some (.ref v1), some (.ref v2), some (.ref v3), some (.int v4), some (.int r28.1), none, none]) K d_L_law_544 (Nat.le_of_ble_eq_true rfl) rfl ?_
                      refine av_aload_n K d_L_law_546 rfl rfl ?_
                      obtain ⟨_, eo547, h⟩ := hp_bd h
                      obtain ⟨r29, er29, h⟩ := hp_bd h
                      obtain ⟨fs547, ho547⟩ := hp_is_of eo547
                      refine av_cVl K G (c_M_odds (tab := tabON) er29) (cwV 0 K.2.2.2.2.1 (gV ml_L_105 im_M_odds se_M_odds in_M co_M_odds) rfl rfl rfl cd_M_odds ⟨Nat.le_of_ble_eq_true rfl, Nat.le_of_ble_eq_true rfl⟩) rfl ho547 rfl rfl (Nat.le_of_ble_eq_true rfl) d_L_law_547 ⟨show _ ≤ 601024 by omega, show _ ≤ 7293034 by omega⟩ (fun a9 u9 h9 => ?_)
                      obtain ⟨rfl, rfl⟩ : a9 = r29.1 ∧ u9 = r29.2 := ⟨congrArg Prod.fst h9, congrArg Prod.snd h9⟩
                      refine av_lstore (L' := [some (.retAddr sc), some (.ref v1), some (.ref v2), some (.ref v3), some (.int v4), some (.int r28.1), some (.long r29.1), none]) K d_L_law_550 (Nat.le_of_ble_eq_true rfl) rfl ?_
                      refine av_aload_n K d_L_law_552 rfl rfl ?_
                      obtain ⟨_, eo553, h⟩ := hp_bd h
                      obtain ⟨r30, er30, h⟩ := hp_bd h
                      obtain ⟨fs553, ho553⟩ := hp_is_of eo553
                      refine av_cVi K G (c_M_thrown (tab := tabON) er30) (cwV 0 K.2.2.2.2.1 (gV ml_L_79 im_M_thrown se_M_thrown in_M co_M_thrown) rfl rfl rfl cd_M_thrown ⟨Nat.le_of_ble_eq_true rfl, Nat.le_of_ble_eq_true rfl⟩) rfl ho553 rfl rfl (Nat.le_of_ble_eq_true rfl) d_L_law_553 ⟨show _ ≤ 601024 by omega, show _ ≤ 7293034 by omega⟩ (fun a9 u9 h9 => ?_)
                      obtain ⟨rfl, rfl⟩ : a9 = r30.1 ∧ u9 = r30.2 := ⟨congrArg Prod.fst h9, congrArg Prod.snd h9⟩
                      refine av_iload K d_L_law_556 rfl ?_
                      refine av_icmp_eq (tgt := 563) K d_L_law_558 rfl (fun hc => ?_) (fun hc => ?_)
                      · rw [if_pos hc] at h
                        refine av_iload K d_L_law_563 rfl ?_
                        refine av_if_ne (tgt := 579) K d_L_law_565 rfl (fun hc => ?_) (fun hc => ?_)
                        · rw [if_neg hc] at h
                          refine hv_fg (L' := [some (.retAddr sc), some (.ref v1), some (.ref v2), some (.ref v3), some (.int v4), none, none, none]) [5, 6] rfl ?_
                          exact v_L_law_579 K G X N hl S hr hA fu (f_L_law_23 fu xs Ln n) ih (v1) (v2) (v3) (v4) _ _ _ (by omega) (by omega) h
                        · rw [if_pos hc] at h
                          refine av_aload_n K d_L_law_568 rfl rfl ?_
                          refine av_iconst (v := (0 : Int32)) K d_L_law_569 (by decide) ?_
                          obtain ⟨y31, ey31, h⟩ := hp_bd h
                          refine hv_rl K d_L_law_570 ey31 ?_
                          refine av_lload K d_L_law_571 rfl ?_
                          refine av_lcmp K d_L_law_573 ?_
                          refine av_if_eq (tgt := 579) K d_L_law_574 rfl (fun hc => ?_) (fun hc => ?_)
                          · rw [if_pos hc] at h
                            refine hv_fg (L' := [some (.retAddr sc), some (.ref v1), some (.ref v2), some (.ref v3), some (.int v4), none, none, none]) [5, 6] rfl ?_
                            exact v_L_law_579 K G X N hl S hr hA fu (f_L_law_23 fu xs Ln n) ih (v1) (v2) (v3) (v4) _ _ _ (by omega) (by omega) h
                          · rw [if_neg hc] at h
                            refine av_iconst (v := (0 : Int32)) K d_L_law_577 (by decide) ?_
                            obtain ⟨hz, h⟩ := hp_if h
                            exact absurd hz (by decide)
                      · rw [if_neg hc] at h
                        refine av_iconst (v := (0 : Int32)) K d_L_law_561 (by decide) ?_
                        obtain ⟨hz, h⟩ := hp_if h
                        exact absurd hz (by decide)
                    · rw [if_neg hs39_7] at h
                      by_cases hs39_8 : ((xs (v4).toNatClampNeg) &&& (15 : Int32)) = (8 : Int32)
                      · rw [if_pos hs39_8] at h
                        refine av_tswI (tgt := 582) K d_L_law_39 (by rw [hs39_8]; decide) (by rw [hs39_8]; decide) (by rw [hs39_8]; rfl) rfl ?_
                        refine av_aload_n K d_L_law_582 rfl rfl ?_
                        refine av_aloadR K d_L_law_583 rfl rfl ?_
                        refine av_iload K d_L_law_584 rfl ?_
                        refine av_iconst (v := (1 : Int32)) K d_L_law_586 (by decide) ?_
                        refine av_iadd K d_L_law_587 ?_
                        obtain ⟨hi588, h⟩ := hp_if h
                        refine av_sld K S d_L_law_588 hi588 ?_
                        refine av_aload_n K d_L_law_589 rfl rfl ?_
                        obtain ⟨r32, er32, h⟩ := hp_bd h
                        refine av_cH K G X N (c_L_digit hl er32) (vx_cwSW 3 K.2.2.2.2.1 (gSU ml_L_106 sm_L_digit in_L co_L_digit) rfl rfl rfl ce_L_digit ⟨(Nat.le_of_ble_eq_true rfl), (Nat.le_of_ble_eq_true rfl)⟩) rfl rfl (Nat.le_of_ble_eq_true rfl) d_L_law_590 ⟨show _ ≤ 601024 by omega, show _ ≤ 7293034 by omega⟩ (fun a9 u9 h9 => ?_)
                        obtain ⟨rfl, rfl⟩ : a9 = r32.1 ∧ u9 = r32.2 := ⟨congrArg Prod.fst h9, congrArg Prod.snd h9⟩
                        refine av_istore (L' := [some (.retAddr sc), some (.ref v1), some (.ref v2), some (.ref v3), some (.int v4), some (.int r32.1), none, none]) K d_L_law_593 (Nat.le_of_ble_eq_true rfl) rfl ?_
                        refine av_aload_n K d_L_law_595 rfl rfl ?_
                        refine av_aloadR K d_L_law_596 rfl rfl ?_
                        refine av_iload K d_L_law_597 rfl ?_
                        refine av_iconst (v := (1 : Int32)) K d_L_law_599 (by decide) ?_
                        refine av_iadd K d_L_law_600 ?_
                        obtain ⟨hi601, h⟩ := hp_if h
                        refine av_sld K S d_L_law_601 hi601 ?_
                        obtain ⟨_, eo602, h⟩ := hp_bd h
                        obtain ⟨r33, er33, h⟩ := hp_bd h
                        obtain ⟨fs602, ho602⟩ := hp_is_of eo602
                        refine av_cVi K G (c_M_digit (tab := tabON) er33) (cwV 1 K.2.2.2.2.1 (gV ml_L_108 im_M_digit se_M_digit in_M co_M_digit) rfl rfl rfl cd_M_digit ⟨Nat.le_of_ble_eq_true rfl, Nat.le_of_ble_eq_true rfl⟩) rfl ho602 rfl rfl (Nat.le_of_ble_eq_true rfl) d_L_law_602 ⟨show _ ≤ 601024 by omega, show _ ≤ 7293034 by omega⟩ (fun a9 u9 h9 => ?_)
                        obtain ⟨rfl, rfl⟩ : a9 = r33.1 ∧ u9 = r33.2 := ⟨congrArg Prod.fst h9, congrArg Prod.snd h9⟩
                        refine av_istore (L' := [some (.retAddr sc), some (.ref v1), some (.ref v2), some (.ref v3), some (.int v4), some (.int r32.1), some (.int r33.1), none]) K d_L_law_605 (Nat.le_of_ble_eq_true rfl) rfl ?_
                        refine av_aload_n K d_L_law_607 rfl rfl ?_
                        obtain ⟨_, eo608, h⟩ := hp_bd h
                        obtain ⟨r34, er34, h⟩ := hp_bd h
                        obtain ⟨fs608, ho608⟩ := hp_is_of eo608
                        refine av_cVi K G (c_M_thrown (tab := tabON) er34) (cwV 0 K.2.2.2.2.1 (gV ml_L_79 im_M_thrown se_M_thrown in_M co_M_thrown) rfl rfl rfl cd_M_thrown ⟨Nat.le_of_ble_eq_true rfl, Nat.le_of_ble_eq_true rfl⟩) rfl ho608 rfl rfl (Nat.le_of_ble_eq_true rfl) d_L_law_608 ⟨show _ ≤ 601024 by omega, show _ ≤ 7293034 by omega⟩ (fun a9 u9 h9 => ?_)
                        obtain ⟨rfl, rfl⟩ : a9 = r34.1 ∧ u9 = r34.2 := ⟨congrArg Prod.fst h9, congrArg Prod.snd h9⟩
                        refine av_iload K d_L_law_611 rfl ?_
                        refine av_icmp_eq (tgt := 618) K d_L_law_613 rfl (fun hc => ?_) (fun hc => ?_)
                        · rw [if_pos hc] at h
                          refine av_iload K d_L_law_618 rfl ?_
                          refine av_if_ne (tgt := 635) K d_L_law_620 rfl (fun hc => ?_) (fun hc => ?_)
                          · rw [if_neg hc] at h
                            refine hv_fg (L' := [some (.retAddr sc), some (.ref v1), some (.ref v2), some (.ref v3), some (.int v4), none, none, none]) [5, 6] rfl ?_
                            exact v_L_law_635 K G X N hl S hr hA fu (f_L_law_23 fu xs Ln n) ih (v1) (v2) (v3) (v4) _ _ _ (by omega) (by omega) h
                          · rw [if_pos hc] at h
                            refine av_aload_n K d_L_law_623 rfl rfl ?_
                            refine av_iconst (v := (0 : Int32)) K d_L_law_624 (by decide) ?_
                            obtain ⟨y35, ey35, h⟩ := hp_bd h
                            refine hv_rl K d_L_law_625 ey35 ?_
                            refine av_iload K d_L_law_626 rfl ?_
                            refine av_i2l K d_L_law_628 ?_
                            refine av_lcmp K d_L_law_629 ?_
                            refine av_if_eq (tgt := 635) K d_L_law_630 rfl (fun hc => ?_) (fun hc => ?_)
                            · rw [if_pos hc] at h
                              refine hv_fg (L' := [some (.retAddr sc), some (.ref v1), some (.ref v2), some (.ref v3), some (.int v4), none, none, none]) [5, 6] rfl ?_
                              exact v_L_law_635 K G X N hl S hr hA fu (f_L_law_23 fu xs Ln n) ih (v1) (v2) (v3) (v4) _ _ _ (by omega) (by omega) h
                            · rw [if_neg hc] at h
                              refine av_iconst (v := (0 : Int32)) K d_L_law_633 (by decide) ?_
                              obtain ⟨hz, h⟩ := hp_if h
                              exact absurd hz (by decide)
                        · rw [if_neg hc] at h
                          refine av_iconst (v := (0 : Int32)) K d_L_law_616 (by decide) ?_
                          obtain ⟨hz, h⟩ := hp_if h
                          exact absurd hz (by decide)
                      · rw [if_neg hs39_8] at h
                        by_cases hs39_9 : ((xs (v4).toNatClampNeg) &&& (15 : Int32)) = (9 : Int32)
                        · rw [if_pos hs39_9] at h
                          refine av_tswI (tgt := 638) K d_L_law_39 (by rw [hs39_9]; decide) (by rw [hs39_9]; decide) (by rw [hs39_9]; rfl) rfl ?_
                          refine av_aload_n K d_L_law_638 rfl rfl ?_
                          refine av_aloadR K d_L_law_639 rfl rfl ?_
                          refine av_iload K d_L_law_640 rfl ?_
                          refine av_iconst (v := (1 : Int32)) K d_L_law_642 (by decide) ?_
                          refine av_iadd K d_L_law_643 ?_
                          obtain ⟨hi644, h⟩ := hp_if h
                          refine av_sld K S d_L_law_644 hi644 ?_
                          refine av_aload_n K d_L_law_645 rfl rfl ?_
                          obtain ⟨r36, er36, h⟩ := hp_bd h
                          refine av_cH K G X N (c_L_weight hl er36) (vx_cwSW 3 K.2.2.2.2.1 (gSU ml_L_109 sm_L_weight in_L co_L_weight) rfl rfl rfl ce_L_weight ⟨(Nat.le_of_ble_eq_true rfl), (Nat.le_of_ble_eq_true rfl)⟩) rfl rfl (Nat.le_of_ble_eq_true rfl) d_L_law_646 ⟨show _ ≤ 601024 by omega, show _ ≤ 7293034 by omega⟩ (fun a9 u9 h9 => ?_)
                          obtain ⟨rfl, rfl⟩ : a9 = r36.1 ∧ u9 = r36.2 := ⟨congrArg Prod.fst h9, congrArg Prod.snd h9⟩
                          refine av_istore (L' := [some (.retAddr sc), some (.ref v1), some (.ref v2), some (.ref v3), some (.int v4), some (.int r36.1), none, none]) K d_L_law_649 (Nat.le_of_ble_eq_true rfl) rfl ?_
                          refine av_aload_n K d_L_law_651 rfl rfl ?_
                          refine av_aloadR K d_L_law_652 rfl rfl ?_
                          refine av_iload K d_L_law_653 rfl ?_
                          refine av_iconst (v := (1 : Int32)) K d_L_law_655 (by decide) ?_
                          refine av_iadd K d_L_law_656 ?_
                          obtain ⟨hi657, h⟩ := hp_if h
                          refine av_sld K S d_L_law_657 hi657 ?_
                          obtain ⟨_, eo658, h⟩ := hp_bd h
                          obtain ⟨r37, er37, h⟩ := hp_bd h
                          obtain ⟨fs658, ho658⟩ := hp_is_of eo658
                          refine av_cVl K G (c_M_weight (tab := tabON) er37) (cwV 1 K.2.2.2.2.1 (gV ml_L_111 im_M_weight se_M_weight in_M co_M_weight) rfl rfl rfl cd_M_weight ⟨Nat.le_of_ble_eq_true rfl, Nat.le_of_ble_eq_true rfl⟩) rfl ho658 rfl rfl (Nat.le_of_ble_eq_true rfl) d_L_law_658 ⟨show _ ≤ 601024 by omega, show _ ≤ 7293034 by omega⟩ (fun a9 u9 h9 => ?_)
                          obtain ⟨rfl, rfl⟩ : a9 = r37.1 ∧ u9 = r37.2 := ⟨congrArg Prod.fst h9, congrArg Prod.snd h9⟩
                          refine av_lstore (L' := [some (.retAddr sc), some (.ref v1), some (.ref v2), some (.ref v3), some (.int v4), some (.int r36.1), some (.long r37.1), none]) K d_L_law_661 (Nat.le_of_ble_eq_true rfl) rfl ?_
                          refine av_aload_n K d_L_law_663 rfl rfl ?_
                          obtain ⟨_, eo664, h⟩ := hp_bd h
                          obtain ⟨r38, er38, h⟩ := hp_bd h
                          obtain ⟨fs664, ho664⟩ := hp_is_of eo664
                          refine av_cVi K G (c_M_thrown (tab := tabON) er38) (cwV 0 K.2.2.2.2.1 (gV ml_L_79 im_M_thrown se_M_thrown in_M co_M_thrown) rfl rfl rfl cd_M_thrown ⟨Nat.le_of_ble_eq_true rfl, Nat.le_of_ble_eq_true rfl⟩) rfl ho664 rfl rfl (Nat.le_of_ble_eq_true rfl) d_L_law_664 ⟨show _ ≤ 601024 by omega, show _ ≤ 7293034 by omega⟩ (fun a9 u9 h9 => ?_)
                          obtain ⟨rfl, rfl⟩ : a9 = r38.1 ∧ u9 = r38.2 := ⟨congrArg Prod.fst h9, congrArg Prod.snd h9⟩
                          refine av_iload K d_L_law_667 rfl ?_
                          refine av_icmp_eq (tgt := 674) K d_L_law_669 rfl (fun hc => ?_) (fun hc => ?_)
                          · rw [if_pos hc] at h
                            refine av_iload K d_L_law_674 rfl ?_
                            refine av_if_ne (tgt := 690) K d_L_law_676 rfl (fun hc => ?_) (fun hc => ?_)
                            · rw [if_neg hc] at h
                              refine hv_fg (L' := [some (.retAddr sc), some (.ref v1), some (.ref v2), some (.ref v3), some (.int v4), none, none, none]) [5, 6] rfl ?_
                              exact v_L_law_690 K G X N hl S hr hA fu (f_L_law_23 fu xs Ln n) ih (v1) (v2) (v3) (v4) _ _ _ (by omega) (by omega) h
                            · rw [if_pos hc] at h
                              refine av_aload_n K d_L_law_679 rfl rfl ?_
                              refine av_iconst (v := (0 : Int32)) K d_L_law_680 (by decide) ?_
                              obtain ⟨y39, ey39, h⟩ := hp_bd h
                              refine hv_rl K d_L_law_681 ey39 ?_
                              refine av_lload K d_L_law_682 rfl ?_
                              refine av_lcmp K d_L_law_684 ?_
                              refine av_if_eq (tgt := 690) K d_L_law_685 rfl (fun hc => ?_) (fun hc => ?_)
                              · rw [if_pos hc] at h
                                refine hv_fg (L' := [some (.retAddr sc), some (.ref v1), some (.ref v2), some (.ref v3), some (.int v4), none, none, none]) [5, 6] rfl ?_
                                exact v_L_law_690 K G X N hl S hr hA fu (f_L_law_23 fu xs Ln n) ih (v1) (v2) (v3) (v4) _ _ _ (by omega) (by omega) h
                              · rw [if_neg hc] at h
                                refine av_iconst (v := (0 : Int32)) K d_L_law_688 (by decide) ?_
                                obtain ⟨hz, h⟩ := hp_if h
                                exact absurd hz (by decide)
                          · rw [if_neg hc] at h
                            refine av_iconst (v := (0 : Int32)) K d_L_law_672 (by decide) ?_
                            obtain ⟨hz, h⟩ := hp_if h
                            exact absurd hz (by decide)
                        · rw [if_neg hs39_9] at h
                          by_cases hs39_10 : ((xs (v4).toNatClampNeg) &&& (15 : Int32)) = (10 : Int32)
                          · rw [if_pos hs39_10] at h
                            refine av_tswI (tgt := 693) K d_L_law_39 (by rw [hs39_10]; decide) (by rw [hs39_10]; decide) (by rw [hs39_10]; rfl) rfl ?_
                            refine av_aload_n K d_L_law_693 rfl rfl ?_
                            refine av_aload_n K d_L_law_694 rfl rfl ?_
                            obtain ⟨r40, er40, h⟩ := hp_bd h
                            refine av_cH K G X N (c_L_nodes hl er40) (vx_cwSW 2 K.2.2.2.2.1 (gSU ml_L_112 sm_L_nodes in_L co_L_nodes) rfl rfl rfl ce_L_nodes ⟨(Nat.le_of_ble_eq_true rfl), (Nat.le_of_ble_eq_true rfl)⟩) rfl rfl (Nat.le_of_ble_eq_true rfl) d_L_law_695 ⟨show _ ≤ 601024 by omega, show _ ≤ 7293034 by omega⟩ (fun a9 u9 h9 => ?_)
                            obtain ⟨rfl, rfl⟩ : a9 = r40.1 ∧ u9 = r40.2 := ⟨congrArg Prod.fst h9, congrArg Prod.snd h9⟩
                            refine av_istore (L' := [some (.retAddr sc), some (.ref v1), some (.ref v2), some (.ref v3), some (.int v4), some (.int r40.1), none, none]) K d_L_law_698 (Nat.le_of_ble_eq_true rfl) rfl ?_
                            refine av_aload_n K d_L_law_700 rfl rfl ?_
                            obtain ⟨_, eo701, h⟩ := hp_bd h
                            obtain ⟨r41, er41, h⟩ := hp_bd h
                            obtain ⟨fs701, ho701⟩ := hp_is_of eo701
                            refine av_cVi K G (c_M_nodes (tab := tabON) er41) (cwV 0 K.2.2.2.2.1 (gV ml_L_114 im_M_nodes se_M_nodes in_M co_M_nodes) rfl rfl rfl cd_M_nodes ⟨Nat.le_of_ble_eq_true rfl, Nat.le_of_ble_eq_true rfl⟩) rfl ho701 rfl rfl (Nat.le_of_ble_eq_true rfl) d_L_law_701 ⟨show _ ≤ 601024 by omega, show _ ≤ 7293034 by omega⟩ (fun a9 u9 h9 => ?_)
                            obtain ⟨rfl, rfl⟩ : a9 = r41.1 ∧ u9 = r41.2 := ⟨congrArg Prod.fst h9, congrArg Prod.snd h9⟩
                            refine av_istore (L' := [some (.retAddr sc), some (.ref v1), some (.ref v2), some (.ref v3), some (.int v4), some (.int r40.1), some (.int r41.1), none]) K d_L_law_704 (Nat.le_of_ble_eq_true rfl) rfl ?_
                            refine av_aload_n K d_L_law_706 rfl rfl ?_
                            obtain ⟨_, eo707, h⟩ := hp_bd h
                            obtain ⟨r42, er42, h⟩ := hp_bd h
                            obtain ⟨fs707, ho707⟩ := hp_is_of eo707
                            refine av_cVi K G (c_M_thrown (tab := tabON) er42) (cwV 0 K.2.2.2.2.1 (gV ml_L_79 im_M_thrown se_M_thrown in_M co_M_thrown) rfl rfl rfl cd_M_thrown ⟨Nat.le_of_ble_eq_true rfl, Nat.le_of_ble_eq_true rfl⟩) rfl ho707 rfl rfl (Nat.le_of_ble_eq_true rfl) d_L_law_707 ⟨show _ ≤ 601024 by omega, show _ ≤ 7293034 by omega⟩ (fun a9 u9 h9 => ?_)
                            obtain ⟨rfl, rfl⟩ : a9 = r42.1 ∧ u9 = r42.2 := ⟨congrArg Prod.fst h9, congrArg Prod.snd h9⟩
                            refine av_iload K d_L_law_710 rfl ?_
                            refine av_icmp_eq (tgt := 717) K d_L_law_712 rfl (fun hc => ?_) (fun hc => ?_)
                            · rw [if_pos hc] at h
                              refine av_iload K d_L_law_717 rfl ?_
                              refine av_if_ne (tgt := 734) K d_L_law_719 rfl (fun hc => ?_) (fun hc => ?_)
                              · rw [if_neg hc] at h
                                refine hv_fg (L' := [some (.retAddr sc), some (.ref v1), some (.ref v2), some (.ref v3), some (.int v4), none, none, none]) [5, 6] rfl ?_
                                exact v_L_law_734 K G X N hl S hr hA fu (f_L_law_23 fu xs Ln n) ih (v1) (v2) (v3) (v4) _ _ _ (by omega) (by omega) h
                              · rw [if_pos hc] at h
                                refine av_aload_n K d_L_law_722 rfl rfl ?_
                                refine av_iconst (v := (0 : Int32)) K d_L_law_723 (by decide) ?_
                                obtain ⟨y43, ey43, h⟩ := hp_bd h
                                refine hv_rl K d_L_law_724 ey43 ?_
                                refine av_iload K d_L_law_725 rfl ?_
                                refine av_i2l K d_L_law_727 ?_
                                refine av_lcmp K d_L_law_728 ?_
                                refine av_if_eq (tgt := 734) K d_L_law_729 rfl (fun hc => ?_) (fun hc => ?_)
                                · rw [if_pos hc] at h
                                  refine hv_fg (L' := [some (.retAddr sc), some (.ref v1), some (.ref v2), some (.ref v3), some (.int v4), none, none, none]) [5, 6] rfl ?_
                                  exact v_L_law_734 K G X N hl S hr hA fu (f_L_law_23 fu xs Ln n) ih (v1) (v2) (v3) (v4) _ _ _ (by omega) (by omega) h
                                · rw [if_neg hc] at h
                                  refine av_iconst (v := (0 : Int32)) K d_L_law_732 (by decide) ?_
                                  obtain ⟨hz, h⟩ := hp_if h
                                  exact absurd hz (by decide)
                            · rw [if_neg hc] at h
                              refine av_iconst (v := (0 : Int32)) K d_L_law_715 (by decide) ?_
                              obtain ⟨hz, h⟩ := hp_if h
                              exact absurd hz (by decide)
                          · rw [if_neg hs39_10] at h
                            by_cases hs39_11 : ((xs (v4).toNatClampNeg) &&& (15 : Int32)) = (11 : Int32)
                            · rw [if_pos hs39_11] at h
                              refine av_tswI (tgt := 737) K d_L_law_39 (by rw [hs39_11]; decide) (by rw [hs39_11]; decide) (by rw [hs39_11]; rfl) rfl ?_
                              refine av_aload_n K d_L_law_737 rfl rfl ?_
                              refine av_aloadR K d_L_law_738 rfl rfl ?_
                              refine av_iload K d_L_law_739 rfl ?_
                              refine av_iconst (v := (1 : Int32)) K d_L_law_741 (by decide) ?_
                              refine av_iadd K d_L_law_742 ?_
                              obtain ⟨hi743, h⟩ := hp_if h
                              refine av_sld K S d_L_law_743 hi743 ?_
                              refine av_aload_n K d_L_law_744 rfl rfl ?_
                              obtain ⟨r44, er44, h⟩ := hp_bd h
                              refine av_cH K G X N (c_L_primes hl er44) (vx_cwSW 3 K.2.2.2.2.1 (gSU ml_L_115 sm_L_primes in_L co_L_primes) rfl rfl rfl ce_L_primes ⟨(Nat.le_of_ble_eq_true rfl), (Nat.le_of_ble_eq_true rfl)⟩) rfl rfl (Nat.le_of_ble_eq_true rfl) d_L_law_745 ⟨show _ ≤ 601024 by omega, show _ ≤ 7293034 by omega⟩ (fun a9 u9 h9 => ?_)
                              obtain ⟨rfl, rfl⟩ : a9 = r44.1 ∧ u9 = r44.2 := ⟨congrArg Prod.fst h9, congrArg Prod.snd h9⟩
                              refine av_istore (L' := [some (.retAddr sc), some (.ref v1), some (.ref v2), some (.ref v3), some (.int v4), some (.int r44.1), none, none]) K d_L_law_748 (Nat.le_of_ble_eq_true rfl) rfl ?_
                              refine av_aload_n K d_L_law_750 rfl rfl ?_
                              refine av_aloadR K d_L_law_751 rfl rfl ?_
                              refine av_iload K d_L_law_752 rfl ?_
                              refine av_iconst (v := (1 : Int32)) K d_L_law_754 (by decide) ?_
                              refine av_iadd K d_L_law_755 ?_
                              obtain ⟨hi756, h⟩ := hp_if h
                              refine av_sld K S d_L_law_756 hi756 ?_
                              obtain ⟨_, eo757, h⟩ := hp_bd h
                              obtain ⟨r45, er45, h⟩ := hp_bd h
                              obtain ⟨fs757, ho757⟩ := hp_is_of eo757
                              refine av_cVi K G (c_M_primes (tab := tabON) er45) (cwV 1 K.2.2.2.2.1 (gV ml_L_117 im_M_primes se_M_primes in_M co_M_primes) rfl rfl rfl cd_M_primes ⟨Nat.le_of_ble_eq_true rfl, Nat.le_of_ble_eq_true rfl⟩) rfl ho757 rfl rfl (Nat.le_of_ble_eq_true rfl) d_L_law_757 ⟨show _ ≤ 601024 by omega, show _ ≤ 7293034 by omega⟩ (fun a9 u9 h9 => ?_)
                              obtain ⟨rfl, rfl⟩ : a9 = r45.1 ∧ u9 = r45.2 := ⟨congrArg Prod.fst h9, congrArg Prod.snd h9⟩
                              refine av_istore (L' := [some (.retAddr sc), some (.ref v1), some (.ref v2), some (.ref v3), some (.int v4), some (.int r44.1), some (.int r45.1), none]) K d_L_law_760 (Nat.le_of_ble_eq_true rfl) rfl ?_
                              refine av_aload_n K d_L_law_762 rfl rfl ?_
                              obtain ⟨_, eo763, h⟩ := hp_bd h
                              obtain ⟨r46, er46, h⟩ := hp_bd h
                              obtain ⟨fs763, ho763⟩ := hp_is_of eo763
                              refine av_cVi K G (c_M_thrown (tab := tabON) er46) (cwV 0 K.2.2.2.2.1 (gV ml_L_79 im_M_thrown se_M_thrown in_M co_M_thrown) rfl rfl rfl cd_M_thrown ⟨Nat.le_of_ble_eq_true rfl, Nat.le_of_ble_eq_true rfl⟩) rfl ho763 rfl rfl (Nat.le_of_ble_eq_true rfl) d_L_law_763 ⟨show _ ≤ 601024 by omega, show _ ≤ 7293034 by omega⟩ (fun a9 u9 h9 => ?_)
                              obtain ⟨rfl, rfl⟩ : a9 = r46.1 ∧ u9 = r46.2 := ⟨congrArg Prod.fst h9, congrArg Prod.snd h9⟩
                              refine av_iload K d_L_law_766 rfl ?_
                              refine av_icmp_eq (tgt := 773) K d_L_law_768 rfl (fun hc => ?_) (fun hc => ?_)
                              · rw [if_pos hc] at h
                                refine av_iload K d_L_law_773 rfl ?_
                                refine av_if_ne (tgt := 790) K d_L_law_775 rfl (fun hc => ?_) (fun hc => ?_)
                                · rw [if_neg hc] at h
                                  refine hv_fg (L' := [some (.retAddr sc), some (.ref v1), some (.ref v2), some (.ref v3), some (.int v4), none, none, none]) [5, 6] rfl ?_
                                  exact v_L_law_790 K G X N hl S hr hA fu (f_L_law_23 fu xs Ln n) ih (v1) (v2) (v3) (v4) _ _ _ (by omega) (by omega) h
                                · rw [if_pos hc] at h
                                  refine av_aload_n K d_L_law_778 rfl rfl ?_
                                  refine av_iconst (v := (0 : Int32)) K d_L_law_779 (by decide) ?_
                                  obtain ⟨y47, ey47, h⟩ := hp_bd h
                                  refine hv_rl K d_L_law_780 ey47 ?_
                                  refine av_iload K d_L_law_781 rfl ?_
                                  refine av_i2l K d_L_law_783 ?_
                                  refine av_lcmp K d_L_law_784 ?_
                                  refine av_if_eq (tgt := 790) K d_L_law_785 rfl (fun hc => ?_) (fun hc => ?_)
                                  · rw [if_pos hc] at h
                                    refine hv_fg (L' := [some (.retAddr sc), some (.ref v1), some (.ref v2), some (.ref v3), some (.int v4), none, none, none]) [5, 6] rfl ?_
                                    exact v_L_law_790 K G X N hl S hr hA fu (f_L_law_23 fu xs Ln n) ih (v1) (v2) (v3) (v4) _ _ _ (by omega) (by omega) h
                                  · rw [if_neg hc] at h
                                    refine av_iconst (v := (0 : Int32)) K d_L_law_788 (by decide) ?_
                                    obtain ⟨hz, h⟩ := hp_if h
                                    exact absurd hz (by decide)
                              · rw [if_neg hc] at h
                                refine av_iconst (v := (0 : Int32)) K d_L_law_771 (by decide) ?_
                                obtain ⟨hz, h⟩ := hp_if h
                                exact absurd hz (by decide)
                            · rw [if_neg hs39_11] at h
                              by_cases hs39_12 : ((xs (v4).toNatClampNeg) &&& (15 : Int32)) = (12 : Int32)
                              · rw [if_pos hs39_12] at h
                                refine av_tswI (tgt := 793) K d_L_law_39 (by rw [hs39_12]; decide) (by rw [hs39_12]; decide) (by rw [hs39_12]; rfl) rfl ?_
                                refine av_aload_n K d_L_law_793 rfl rfl ?_
                                refine av_aloadR K d_L_law_794 rfl rfl ?_
                                refine av_iload K d_L_law_795 rfl ?_
                                refine av_iconst (v := (1 : Int32)) K d_L_law_797 (by decide) ?_
                                refine av_iadd K d_L_law_798 ?_
                                obtain ⟨hi799, h⟩ := hp_if h
                                refine av_sld K S d_L_law_799 hi799 ?_
                                refine av_aloadR K d_L_law_800 rfl rfl ?_
                                refine av_iload K d_L_law_801 rfl ?_
                                refine av_iconst (v := (2 : Int32)) K d_L_law_803 (by decide) ?_
                                refine av_iadd K d_L_law_804 ?_
                                obtain ⟨hi805, h⟩ := hp_if h
                                refine av_sld K S d_L_law_805 hi805 ?_
                                refine av_aload_n K d_L_law_806 rfl rfl ?_
                                obtain ⟨r48, er48, h⟩ := hp_bd h
                                refine av_cH K G X N (c_L_prime hl er48) (vx_cwSW 4 K.2.2.2.2.1 (gSU ml_L_118 sm_L_prime in_L co_L_prime) rfl rfl rfl ce_L_prime ⟨(Nat.le_of_ble_eq_true rfl), (Nat.le_of_ble_eq_true rfl)⟩) rfl rfl (Nat.le_of_ble_eq_true rfl) d_L_law_807 ⟨show _ ≤ 601024 by omega, show _ ≤ 7293034 by omega⟩ (fun a9 u9 h9 => ?_)
                                obtain ⟨rfl, rfl⟩ : a9 = r48.1 ∧ u9 = r48.2 := ⟨congrArg Prod.fst h9, congrArg Prod.snd h9⟩
                                refine av_istore (L' := [some (.retAddr sc), some (.ref v1), some (.ref v2), some (.ref v3), some (.int v4), some (.int r48.1), none, none]) K d_L_law_810 (Nat.le_of_ble_eq_true rfl) rfl ?_
                                refine av_aload_n K d_L_law_812 rfl rfl ?_
                                refine av_aloadR K d_L_law_813 rfl rfl ?_
                                refine av_iload K d_L_law_814 rfl ?_
                                refine av_iconst (v := (1 : Int32)) K d_L_law_816 (by decide) ?_
                                refine av_iadd K d_L_law_817 ?_
                                obtain ⟨hi818, h⟩ := hp_if h
                                refine av_sld K S d_L_law_818 hi818 ?_
                                refine av_aloadR K d_L_law_819 rfl rfl ?_
                                refine av_iload K d_L_law_820 rfl ?_
                                refine av_iconst (v := (2 : Int32)) K d_L_law_822 (by decide) ?_
                                refine av_iadd K d_L_law_823 ?_
                                obtain ⟨hi824, h⟩ := hp_if h
                                refine av_sld K S d_L_law_824 hi824 ?_
                                obtain ⟨_, eo825, h⟩ := hp_bd h
                                obtain ⟨r49, er49, h⟩ := hp_bd h
                                obtain ⟨fs825, ho825⟩ := hp_is_of eo825
                                refine av_cVi K G (c_M_prime (tab := tabON) er49) (cwV 2 K.2.2.2.2.1 (gV ml_L_120 im_M_prime se_M_prime in_M co_M_prime) rfl rfl rfl cd_M_prime ⟨Nat.le_of_ble_eq_true rfl, Nat.le_of_ble_eq_true rfl⟩) rfl ho825 rfl rfl (Nat.le_of_ble_eq_true rfl) d_L_law_825 ⟨show _ ≤ 601024 by omega, show _ ≤ 7293034 by omega⟩ (fun a9 u9 h9 => ?_)
                                obtain ⟨rfl, rfl⟩ : a9 = r49.1 ∧ u9 = r49.2 := ⟨congrArg Prod.fst h9, congrArg Prod.snd h9⟩
                                refine av_istore (L' := [some (.retAddr sc), some (.ref v1), some (.ref v2), some (.ref v3), some (.int v4), some (.int r48.1), some (.int r49.1), none]) K d_L_law_828 (Nat.le_of_ble_eq_true rfl) rfl ?_
                                refine av_aload_n K d_L_law_830 rfl rfl ?_
                                obtain ⟨_, eo831, h⟩ := hp_bd h
                                obtain ⟨r50, er50, h⟩ := hp_bd h
                                obtain ⟨fs831, ho831⟩ := hp_is_of eo831
                                refine av_cVi K G (c_M_thrown (tab := tabON) er50) (cwV 0 K.2.2.2.2.1 (gV ml_L_79 im_M_thrown se_M_thrown in_M co_M_thrown) rfl rfl rfl cd_M_thrown ⟨Nat.le_of_ble_eq_true rfl, Nat.le_of_ble_eq_true rfl⟩) rfl ho831 rfl rfl (Nat.le_of_ble_eq_true rfl) d_L_law_831 ⟨show _ ≤ 601024 by omega, show _ ≤ 7293034 by omega⟩ (fun a9 u9 h9 => ?_)
                                obtain ⟨rfl, rfl⟩ : a9 = r50.1 ∧ u9 = r50.2 := ⟨congrArg Prod.fst h9, congrArg Prod.snd h9⟩
                                refine av_iload K d_L_law_834 rfl ?_
                                refine av_icmp_eq (tgt := 841) K d_L_law_836 rfl (fun hc => ?_) (fun hc => ?_)
                                · rw [if_pos hc] at h
                                  refine av_iload K d_L_law_841 rfl ?_
                                  refine av_if_ne (tgt := 858) K d_L_law_843 rfl (fun hc => ?_) (fun hc => ?_)
                                  · rw [if_neg hc] at h
                                    refine hv_fg (L' := [some (.retAddr sc), some (.ref v1), some (.ref v2), some (.ref v3), some (.int v4), none, none, none]) [5, 6] rfl ?_
                                    exact v_L_law_858 K G X N hl S hr hA fu (f_L_law_23 fu xs Ln n) ih (v1) (v2) (v3) (v4) _ _ _ (by omega) (by omega) h
                                  · rw [if_pos hc] at h
                                    refine av_aload_n K d_L_law_846 rfl rfl ?_
                                    refine av_iconst (v := (0 : Int32)) K d_L_law_847 (by decide) ?_
                                    obtain ⟨y51, ey51, h⟩ := hp_bd h
                                    refine hv_rl K d_L_law_848 ey51 ?_
                                    refine av_iload K d_L_law_849 rfl ?_
                                    refine av_i2l K d_L_law_851 ?_
                                    refine av_lcmp K d_L_law_852 ?_
                                    refine av_if_eq (tgt := 858) K d_L_law_853 rfl (fun hc => ?_) (fun hc => ?_)
                                    · rw [if_pos hc] at h
                                      refine hv_fg (L' := [some (.retAddr sc), some (.ref v1), some (.ref v2), some (.ref v3), some (.int v4), none, none, none]) [5, 6] rfl ?_
                                      exact v_L_law_858 K G X N hl S hr hA fu (f_L_law_23 fu xs Ln n) ih (v1) (v2) (v3) (v4) _ _ _ (by omega) (by omega) h
                                    · rw [if_neg hc] at h
                                      refine av_iconst (v := (0 : Int32)) K d_L_law_856 (by decide) ?_
                                      obtain ⟨hz, h⟩ := hp_if h
                                      exact absurd hz (by decide)
                                · rw [if_neg hc] at h
                                  refine av_iconst (v := (0 : Int32)) K d_L_law_839 (by decide) ?_
                                  obtain ⟨hz, h⟩ := hp_if h
                                  exact absurd hz (by decide)
                              · rw [if_neg hs39_12] at h
                                by_cases hs39_13 : ((xs (v4).toNatClampNeg) &&& (15 : Int32)) = (13 : Int32)
                                · rw [if_pos hs39_13] at h
                                  refine av_tswI (tgt := 861) K d_L_law_39 (by rw [hs39_13]; decide) (by rw [hs39_13]; decide) (by rw [hs39_13]; rfl) rfl ?_
                                  refine av_aload_n K d_L_law_861 rfl rfl ?_
                                  refine av_aloadR K d_L_law_862 rfl rfl ?_
                                  refine av_iload K d_L_law_863 rfl ?_
                                  refine av_iconst (v := (1 : Int32)) K d_L_law_865 (by decide) ?_
                                  refine av_iadd K d_L_law_866 ?_
                                  obtain ⟨hi867, h⟩ := hp_if h
                                  refine av_sld K S d_L_law_867 hi867 ?_
                                  refine av_aload_n K d_L_law_868 rfl rfl ?_
                                  obtain ⟨r52, er52, h⟩ := hp_bd h
                                  refine av_cH K G X N (c_L_share hl er52) (vx_cwSW 3 K.2.2.2.2.1 (gSU ml_L_121 sm_L_share in_L co_L_share) rfl rfl rfl ce_L_share ⟨(Nat.le_of_ble_eq_true rfl), (Nat.le_of_ble_eq_true rfl)⟩) rfl rfl (Nat.le_of_ble_eq_true rfl) d_L_law_869 ⟨show _ ≤ 601024 by omega, show _ ≤ 7293034 by omega⟩ (fun a9 u9 h9 => ?_)
                                  obtain ⟨rfl, rfl⟩ : a9 = r52.1 ∧ u9 = r52.2 := ⟨congrArg Prod.fst h9, congrArg Prod.snd h9⟩
                                  refine av_istore (L' := [some (.retAddr sc), some (.ref v1), some (.ref v2), some (.ref v3), some (.int v4), some (.int r52.1), none, none]) K d_L_law_872 (Nat.le_of_ble_eq_true rfl) rfl ?_
                                  refine av_aload_n K d_L_law_874 rfl rfl ?_
                                  refine av_aloadR K d_L_law_875 rfl rfl ?_
                                  refine av_iload K d_L_law_876 rfl ?_
                                  refine av_iconst (v := (1 : Int32)) K d_L_law_878 (by decide) ?_
                                  refine av_iadd K d_L_law_879 ?_
                                  obtain ⟨hi880, h⟩ := hp_if h
                                  refine av_sld K S d_L_law_880 hi880 ?_
                                  obtain ⟨_, eo881, h⟩ := hp_bd h
                                  obtain ⟨r53, er53, h⟩ := hp_bd h
                                  obtain ⟨fs881, ho881⟩ := hp_is_of eo881
                                  refine av_cVi K G (c_M_share (tab := tabON) er53) (cwV 1 K.2.2.2.2.1 (gV ml_L_123 im_M_share se_M_share in_M co_M_share) rfl rfl rfl cd_M_share ⟨Nat.le_of_ble_eq_true rfl, Nat.le_of_ble_eq_true rfl⟩) rfl ho881 rfl rfl (Nat.le_of_ble_eq_true rfl) d_L_law_881 ⟨show _ ≤ 601024 by omega, show _ ≤ 7293034 by omega⟩ (fun a9 u9 h9 => ?_)
                                  obtain ⟨rfl, rfl⟩ : a9 = r53.1 ∧ u9 = r53.2 := ⟨congrArg Prod.fst h9, congrArg Prod.snd h9⟩
                                  refine av_istore (L' := [some (.retAddr sc), some (.ref v1), some (.ref v2), some (.ref v3), some (.int v4), some (.int r52.1), some (.int r53.1), none]) K d_L_law_884 (Nat.le_of_ble_eq_true rfl) rfl ?_
                                  refine av_aload_n K d_L_law_886 rfl rfl ?_
                                  obtain ⟨_, eo887, h⟩ := hp_bd h
                                  obtain ⟨r54, er54, h⟩ := hp_bd h
                                  obtain ⟨fs887, ho887⟩ := hp_is_of eo887
                                  refine av_cVi K G (c_M_thrown (tab := tabON) er54) (cwV 0 K.2.2.2.2.1 (gV ml_L_79 im_M_thrown se_M_thrown in_M co_M_thrown) rfl rfl rfl cd_M_thrown ⟨Nat.le_of_ble_eq_true rfl, Nat.le_of_ble_eq_true rfl⟩) rfl ho887 rfl rfl (Nat.le_of_ble_eq_true rfl) d_L_law_887 ⟨show _ ≤ 601024 by omega, show _ ≤ 7293034 by omega⟩ (fun a9 u9 h9 => ?_)
                                  obtain ⟨rfl, rfl⟩ : a9 = r54.1 ∧ u9 = r54.2 := ⟨congrArg Prod.fst h9, congrArg Prod.snd h9⟩
                                  refine av_iload K d_L_law_890 rfl ?_
                                  refine av_icmp_eq (tgt := 897) K d_L_law_892 rfl (fun hc => ?_) (fun hc => ?_)
                                  · rw [if_pos hc] at h
                                    refine av_iload K d_L_law_897 rfl ?_
                                    refine av_if_ne (tgt := 914) K d_L_law_899 rfl (fun hc => ?_) (fun hc => ?_)
                                    · rw [if_neg hc] at h
                                      refine hv_fg (L' := [some (.retAddr sc), some (.ref v1), some (.ref v2), some (.ref v3), some (.int v4), none, none, none]) [5, 6] rfl ?_
                                      exact v_L_law_914 K G X N hl S hr hA fu (f_L_law_23 fu xs Ln n) ih (v1) (v2) (v3) (v4) _ _ _ (by omega) (by omega) h
                                    · rw [if_pos hc] at h
                                      refine av_aload_n K d_L_law_902 rfl rfl ?_
                                      refine av_iconst (v := (0 : Int32)) K d_L_law_903 (by decide) ?_
                                      obtain ⟨y55, ey55, h⟩ := hp_bd h
                                      refine hv_rl K d_L_law_904 ey55 ?_
                                      refine av_iload K d_L_law_905 rfl ?_
                                      refine av_i2l K d_L_law_907 ?_
                                      refine av_lcmp K d_L_law_908 ?_
                                      refine av_if_eq (tgt := 914) K d_L_law_909 rfl (fun hc => ?_) (fun hc => ?_)
                                      · rw [if_pos hc] at h
                                        refine hv_fg (L' := [some (.retAddr sc), some (.ref v1), some (.ref v2), some (.ref v3), some (.int v4), none, none, none]) [5, 6] rfl ?_
                                        exact v_L_law_914 K G X N hl S hr hA fu (f_L_law_23 fu xs Ln n) ih (v1) (v2) (v3) (v4) _ _ _ (by omega) (by omega) h
                                      · rw [if_neg hc] at h
                                        refine av_iconst (v := (0 : Int32)) K d_L_law_912 (by decide) ?_
                                        obtain ⟨hz, h⟩ := hp_if h
                                        exact absurd hz (by decide)
                                  · rw [if_neg hc] at h
                                    refine av_iconst (v := (0 : Int32)) K d_L_law_895 (by decide) ?_
                                    obtain ⟨hz, h⟩ := hp_if h
                                    exact absurd hz (by decide)
                                · rw [if_neg hs39_13] at h
                                  by_cases hs39_14 : ((xs (v4).toNatClampNeg) &&& (15 : Int32)) = (14 : Int32)
                                  · rw [if_pos hs39_14] at h
                                    refine av_tswI (tgt := 917) K d_L_law_39 (by rw [hs39_14]; decide) (by rw [hs39_14]; decide) (by rw [hs39_14]; rfl) rfl ?_
                                    refine av_aload_n K d_L_law_917 rfl rfl ?_
                                    refine av_aload_n K d_L_law_918 rfl rfl ?_
                                    obtain ⟨r56, er56, h⟩ := hp_bd h
                                    refine av_cH K G X N (c_L_modules hl er56) (vx_cwSW 2 K.2.2.2.2.1 (gSU ml_L_124 sm_L_modules in_L co_L_modules) rfl rfl rfl ce_L_modules ⟨(Nat.le_of_ble_eq_true rfl), (Nat.le_of_ble_eq_true rfl)⟩) rfl rfl (Nat.le_of_ble_eq_true rfl) d_L_law_919 ⟨show _ ≤ 601024 by omega, show _ ≤ 7293034 by omega⟩ (fun a9 u9 h9 => ?_)
                                    obtain ⟨rfl, rfl⟩ : a9 = r56.1 ∧ u9 = r56.2 := ⟨congrArg Prod.fst h9, congrArg Prod.snd h9⟩
                                    refine av_istore (L' := [some (.retAddr sc), some (.ref v1), some (.ref v2), some (.ref v3), some (.int v4), some (.int r56.1), none, none]) K d_L_law_922 (Nat.le_of_ble_eq_true rfl) rfl ?_
                                    refine av_aload_n K d_L_law_924 rfl rfl ?_
                                    obtain ⟨_, eo925, h⟩ := hp_bd h
                                    obtain ⟨r57, er57, h⟩ := hp_bd h
                                    obtain ⟨fs925, ho925⟩ := hp_is_of eo925
                                    refine av_cVi K G (c_M_modules (tab := tabON) er57) (cwV 0 K.2.2.2.2.1 (gV ml_L_126 im_M_modules se_M_modules in_M co_M_modules) rfl rfl rfl cd_M_modules ⟨Nat.le_of_ble_eq_true rfl, Nat.le_of_ble_eq_true rfl⟩) rfl ho925 rfl rfl (Nat.le_of_ble_eq_true rfl) d_L_law_925 ⟨show _ ≤ 601024 by omega, show _ ≤ 7293034 by omega⟩ (fun a9 u9 h9 => ?_)
                                    obtain ⟨rfl, rfl⟩ : a9 = r57.1 ∧ u9 = r57.2 := ⟨congrArg Prod.fst h9, congrArg Prod.snd h9⟩
                                    refine av_istore (L' := [some (.retAddr sc), some (.ref v1), some (.ref v2), some (.ref v3), some (.int v4), some (.int r56.1), some (.int r57.1), none]) K d_L_law_928 (Nat.le_of_ble_eq_true rfl) rfl ?_
                                    refine av_aload_n K d_L_law_930 rfl rfl ?_
                                    obtain ⟨_, eo931, h⟩ := hp_bd h
                                    obtain ⟨r58, er58, h⟩ := hp_bd h
                                    obtain ⟨fs931, ho931⟩ := hp_is_of eo931
                                    refine av_cVi K G (c_M_thrown (tab := tabON) er58) (cwV 0 K.2.2.2.2.1 (gV ml_L_79 im_M_thrown se_M_thrown in_M co_M_thrown) rfl rfl rfl cd_M_thrown ⟨Nat.le_of_ble_eq_true rfl, Nat.le_of_ble_eq_true rfl⟩) rfl ho931 rfl rfl (Nat.le_of_ble_eq_true rfl) d_L_law_931 ⟨show _ ≤ 601024 by omega, show _ ≤ 7293034 by omega⟩ (fun a9 u9 h9 => ?_)
                                    obtain ⟨rfl, rfl⟩ : a9 = r58.1 ∧ u9 = r58.2 := ⟨congrArg Prod.fst h9, congrArg Prod.snd h9⟩
                                    refine av_iload K d_L_law_934 rfl ?_
                                    refine av_icmp_eq (tgt := 941) K d_L_law_936 rfl (fun hc => ?_) (fun hc => ?_)
                                    · rw [if_pos hc] at h
                                      refine av_iload K d_L_law_941 rfl ?_
                                      refine av_if_ne (tgt := 958) K d_L_law_943 rfl (fun hc => ?_) (fun hc => ?_)
                                      · rw [if_neg hc] at h
                                        refine hv_fg (L' := [some (.retAddr sc), some (.ref v1), some (.ref v2), some (.ref v3), some (.int v4), none, none, none]) [5, 6] rfl ?_
                                        exact v_L_law_958 K G X N hl S hr hA fu (f_L_law_23 fu xs Ln n) ih (v1) (v2) (v3) (v4) _ _ _ (by omega) (by omega) h
                                      · rw [if_pos hc] at h
                                        refine av_aload_n K d_L_law_946 rfl rfl ?_
                                        refine av_iconst (v := (0 : Int32)) K d_L_law_947 (by decide) ?_
                                        obtain ⟨y59, ey59, h⟩ := hp_bd h
                                        refine hv_rl K d_L_law_948 ey59 ?_
                                        refine av_iload K d_L_law_949 rfl ?_
                                        refine av_i2l K d_L_law_951 ?_
                                        refine av_lcmp K d_L_law_952 ?_
                                        refine av_if_eq (tgt := 958) K d_L_law_953 rfl (fun hc => ?_) (fun hc => ?_)
                                        · rw [if_pos hc] at h
                                          refine hv_fg (L' := [some (.retAddr sc), some (.ref v1), some (.ref v2), some (.ref v3), some (.int v4), none, none, none]) [5, 6] rfl ?_
                                          exact v_L_law_958 K G X N hl S hr hA fu (f_L_law_23 fu xs Ln n) ih (v1) (v2) (v3) (v4) _ _ _ (by omega) (by omega) h
                                        · rw [if_neg hc] at h
                                          refine av_iconst (v := (0 : Int32)) K d_L_law_956 (by decide) ?_
                                          obtain ⟨hz, h⟩ := hp_if h
                                          exact absurd hz (by decide)
                                    · rw [if_neg hc] at h
                                      refine av_iconst (v := (0 : Int32)) K d_L_law_939 (by decide) ?_
                                      obtain ⟨hz, h⟩ := hp_if h
                                      exact absurd hz (by decide)
                                  · rw [if_neg hs39_14] at h
                                    refine av_tswO (tgt := 961) K d_L_law_39 (tsw_15 hs39_0 hs39_1 hs39_2 hs39_3 hs39_4 hs39_5 hs39_6 hs39_7 hs39_8 hs39_9 hs39_10 hs39_11 hs39_12 hs39_13 hs39_14) rfl ?_
                                    exact v_L_law_961 K G X N hl S hr hA fu (f_L_law_23 fu xs Ln n) ih (v1) (v2) (v3) (v4) _ _ _ (by omega) (by omega) h
end
