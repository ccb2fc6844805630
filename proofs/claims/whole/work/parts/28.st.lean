/-! the law's entry: what the tables give; the two constructors; the loop. What is left is a statement on lists and numbers alone: fullRun -/
theorem st_arr {args : Array Value} {s : State} {t : FieldType} (h : (Cond.arrayClass t).before args s = true) (hra : ∀ c, s.vm.findClass ("[" ++ t.toString) = some c → va_RA s c t) : ∃ c : Nat, ArrOfT s c t ∧ va_RA s c t := by
  obtain ⟨c, k, comp, h1, h2, h3⟩ := Cond.arrayClass_spec h
  exact ⟨c, fun N z => ⟨(fun q hq => by cases hq), k, h2, comp, h3⟩, hra c h1⟩
theorem st_arrA {s : State} (h : va_AOA .long s) : ∃ c : Nat, ArrOfT s c (.array .long) ∧ va_RA s c (.array .long) := by
  obtain ⟨comp, c, k, -, h2, h3, h4⟩ := Cond.arrayOver_specA h
  exact ⟨c, fun N z => ⟨(fun q hq => by cases hq), k, h2, comp, h3⟩, h4⟩
theorem st_NO {w : Cond} (hw : av_NK w = true) {A : Array Value} {U : State} (h : w.before A U = true) : va_Nw w U := by
  cases w with
  | fieldLinkNest a i b n d x => exact va_Nw.of rfl h
  | methodLinkNest a i x y => exact va_Nw.of rfl h
  | _ => cases hw
theorem st_str {args : Array Value} {s : State} {cur k : Nat} {tx : String} (hc : s.vm.findClass "FaultTreeDesk" = some cur) (h : (Cond.stringRef "FaultTreeDesk" k tx).before args s = true) : ∃ sa, vk_R "FaultTreeDesk" k tx sa s := by
  obtain ⟨_, _, _, a, -, -, -, -, -, h6⟩ := Cond.stringRef_spec hc h
  exact ⟨a, vk_R.of h h6⟩
theorem st_EXN : ∀ E ∈ EXN, Cond.castable E E ∈ tables_1 := by decide +kernel
theorem st_DCL : ∀ y ∈ DCL, Cond.declares y ∈ tables_1 := by decide +kernel
theorem st_STR : ∀ q ∈ STR, Cond.stringRef "FaultTreeDesk" q.1 q.2 ∈ tables_1 := by decide +kernel
theorem st_NCP : ∀ q ∈ NCP, Cond.not (.castable q.1 q.2) ∈ flatC (Jvm.Cond.and given_1 narrow_1) := by decide +kernel
theorem st_NK : NS.all av_NK = true := by decide +kernel
theorem st_AO : Cond.arrayOver (.array .long) ∈ tables_1 := List.mem_of_getElem? (i := 87) (by decide +kernel)
theorem st_lU : Cond.laysStatic Bundle.tN "UNASSIGNED_STACK" Bundle.steD ∈ tables_1 := List.mem_of_getElem? (i := 227) (by decide +kernel)
theorem st_lN : Cond.laysStatic Bundle.tN "SUPPRESSED_SENTINEL" Bundle.listD ∈ tables_1 := List.mem_of_getElem? (i := 229) (by decide +kernel)
theorem st_lO : Cond.laysStatic "FaultTreeDesk" "ON_IN_WORD" "[J" ∈ tables_1 := List.mem_of_getElem? (i := 432) (by decide +kernel)
theorem st_iT : Cond.initialized Bundle.tN ∈ tables_1 := List.mem_of_getElem? (i := 9) (by decide +kernel)
theorem st_iF : Cond.initialized "FaultTreeDesk" ∈ tables_1 := List.mem_of_getElem? (i := 1) (by decide +kernel)
theorem st_el : ∀ j, j < 6 → Cond.eq (.elem (.static "FaultTreeDesk" "ON_IN_WORD" "[J") (.int (Int32.ofNat j))) (.long (tabON j)) ∈ flatC (Jvm.Cond.and given_1 narrow_1) := by decide +kernel
theorem st_ln : Cond.eq (.length (.static "FaultTreeDesk" "ON_IN_WORD" "[J")) (.int 6) ∈ flatC (Jvm.Cond.and given_1 narrow_1) := by decide +kernel
theorem st_of : Cond.arrayOf (.static "FaultTreeDesk" "ON_IN_WORD" "[J") .long ∈ flatC (Jvm.Cond.and given_1 narrow_1) := by decide +kernel
theorem st_rU : Cond.isRef (.static Bundle.tN "UNASSIGNED_STACK" Bundle.steD) ∈ flatC (Jvm.Cond.and given_1 narrow_1) := by decide +kernel
theorem st_rN : Cond.isRef (.static Bundle.tN "SUPPRESSED_SENTINEL" Bundle.listD) ∈ flatC (Jvm.Cond.and given_1 narrow_1) := by decide +kernel
theorem st_K {args : Array Value} {s : State} (hts : ∀ w ∈ WS, w.before args s = true) (O : va_AOA .long s) : ∃ (D : va_G) (ca : Nat → Nat), va_K D cl8 (ax_ty ca) s := by
  obtain ⟨c0, i0, k0⟩ := u_known hts la_D (hts _ ni_D)
  obtain ⟨c1, i1, k1⟩ := u_known hts la_E (hts _ ni_E)
  obtain ⟨c2, i2, k2⟩ := u_known hts la_G (hts _ ni_G)
  obtain ⟨c3, i3, k3⟩ := u_known hts la_O (hts _ ni_O)
  obtain ⟨c4, i4, k4⟩ := u_known hts la_X (hts _ ni_X)
  obtain ⟨c5, i5, k5⟩ := u_known hts la_T (hts _ ni_T)
  obtain ⟨c6, i6, k6⟩ := u_known hts la_F (hts _ ni_F)
  obtain ⟨c7, i7, k7⟩ := u_known hts la_M (hts _ ni_M)
  obtain ⟨a0, h0⟩ := st_arr (hts _ ac_int) (fun _ h => h)
  obtain ⟨a1, h1⟩ := st_arr (hts _ ac_long) (fun _ h => h)
  obtain ⟨a2, h2⟩ := st_arr (hts _ ac_boolean) (fun _ h => h)
  obtain ⟨a3, h3⟩ := st_arrA O
  refine ⟨(fun c => match c with | 0 => c0 | 1 => c1 | 2 => c2 | 3 => c3 | 4 => c4 | 5 => c5 | 6 => c6 | _ => c7, fun c => match c with | 0 => i0 | 1 => i1 | 2 => i2 | 3 => i3 | 4 => i4 | 5 => i5 | 6 => i6 | _ => i7), fun k => match k with | 0 => a0 | 1 => a1 | 2 => a2 | _ => a3, fun c q hq => ?_, fun k q hq => ?_⟩
  · match c, hq with
    | 0, hq => obtain rfl := Option.some.inj (show some (R_D, T_D, 3) = some q from hq); exact k0
    | 1, hq => obtain rfl := Option.some.inj (show some (R_E, T_E, 3) = some q from hq); exact k1
    | 2, hq => obtain rfl := Option.some.inj (show some (R_G, T_G, 5) = some q from hq); exact k2
    | 3, hq => obtain rfl := Option.some.inj (show some (R_O, T_O, 1) = some q from hq); exact k3
    | 4, hq => obtain rfl := Option.some.inj (show some (R_X, T_X, 5) = some q from hq); exact k4
    | 5, hq => obtain rfl := Option.some.inj (show some (R_T, T_T, 5) = some q from hq); exact k5
    | 6, hq => obtain rfl := Option.some.inj (show some (R_F, T_F, 9) = some q from hq); exact k6
    | 7, hq => obtain rfl := Option.some.inj (show some (R_M, T_M, 19) = some q from hq); exact k7
    | c + 8, hq => exact absurd (show (none : Option vw_C) = some q from hq) (by simp)
  · match k, hq with
    | 0, hq => obtain rfl := Option.some.inj (show some (a0, FieldType.int) = some q from hq); exact h0
    | 1, hq => obtain rfl := Option.some.inj (show some (a1, FieldType.long) = some q from hq); exact h1
    | 2, hq => obtain rfl := Option.some.inj (show some (a2, FieldType.boolean) = some q from hq); exact h2
    | 3, hq => obtain rfl := Option.some.inj (show some (a3, FieldType.array .long) = some q from hq); exact h3
    | k + 4, hq => exact absurd (show (none : Option (ClassId × FieldType)) = some q from hq) (by simp)
theorem nkL_8 : Cond.classLink R_L 8 R_F ∈ WS := ws_t (List.mem_of_getElem? (i := 20) (by decide +kernel)) (by decide +kernel)
theorem nkL_70 : Cond.classLink R_L 70 R_M ∈ WS := ws_t (List.mem_of_getElem? (i := 628) (by decide +kernel)) (by decide +kernel)
/-- the whole run as a function on lists: the two objects, the array of answers, the loop -/
def fullRun (fu : Nat) (xs : Nat → Int32) (Ln : Nat) : Option Unit :=
  (hp_nw [] 6 [.null, .null, .null, .null, .null, .null, .int 0, .int 0, .int 0]).bind fun w1 => (f_F_init fu ([] : List va_E).length w1).bind fun w2 =>
  (hp_nw w2 7 [.int 0, .int 0, .null, .null, .int 0, .null, .null, .null, .null, .int 0, .null, .null, .null, .null, .null, .null, .int 0, .null, .null]).bind fun w3 => (f_M_init fu w2.length w3).bind fun w4 => (hp_na w4 1 1).bind fun w5 => f_L_law_23 fu xs Ln fu ([] : List va_E).length w2.length w4.length (0 : Int32) w5
set_option maxHeartbeats 4000000 in
set_option maxRecDepth 100000 in
theorem st_run {p : Program} {e : Env} {s : State} {m : MethodId} {below : List Frame} {meth : Method} {c : Code} {l : Launch} (hl : l.stackTraces = false) {b Ln : Nat} {xs : Nat → Int32} (C0 : lw_At p s m meth c b Ln xs) (fu : Nat) (hfu : fu ≤ 70000) (h : fullRun fu xs Ln = some ()) : W p l e room_1 s m #[Value.ref b] below meth c s.heap [] 0 0 (lw_Z below #[Value.ref b] s) (entryFrame m ([Value.ref b] : List Value).toArray 8) := by
  obtain ⟨hx, hb, hr, hml, hown, hts, hX, hbl, hlocks, hnar⟩ := C0
  have htw : ∀ w ∈ WS, w.before #[Value.ref b] s = true := fun w hw => hts w (List.mem_filter.mp hw).1
  have htt : ∀ w ∈ tables_1, w.before #[Value.ref b] s = true := fun w hw => hts w (List.mem_append_right _ hw)
  have hfl := flat_of_before _ hnar
  have O : va_AOA .long s := htt _ st_AO
  obtain ⟨D, ca, hK⟩ := st_K htw O
  obtain ⟨A, hAd⟩ : ∃ A : Nat → Prop, A = fun q => s.heap.size ≤ q := ⟨_, rfl⟩
  have hA1 : ∀ q : Nat, s.heap.size ≤ q → A q := fun q h => by rw [hAd]; exact h
  have hA2 : ∀ q : Nat, A q → s.heap.size ≤ q := fun q h => by rw [hAd] at h; exact h
  have hA3 : ∀ a : Nat, a < s.heap.size → ¬ A a := fun a h1 h2 => by have := hA2 a h2; omega
  have K : av_K p s m #[Value.ref b] meth c D cl8 ca A code 8 R_L WS := ⟨hx, hb, hml, hown, htw, hK, hA1, hlocks⟩
  have G : av_G NS tabON A s s.heap := by
    refine ⟨st_NK, fun w hw => st_NO (List.all_eq_true.mp st_NK w hw) (htt w (NS_in w hw)), ?_⟩
    obtain ⟨t, h1, h2⟩ := va_Tof (A := A) (f := fun j => .long (tabON j)) (N := 6) (by decide) (hfl _ st_of) (va_eqt (hfl _ st_ln)) (fun j hj => va_eqtl (hfl _ (st_el j hj))) hA3
    exact ⟨t, va_Zref (htt _ st_lO) (htt _ st_iF) h1 hA3, h2⟩
  have X : av_X A s s.heap := by
    obtain ⟨cF, kF, hcF, -⟩ := Cond.instantiable_spec (htw _ ni_F)
    exact ⟨⟨fun E hE => va_Nw.of rfl (htt _ (st_EXN E hE)), fun y hy => va_Nw.of rfl (htt _ (st_DCL y hy))⟩, fun q hq => st_str hcF (htt _ (st_STR q hq)), vx_Zqof (htt _ st_lU) (htt _ st_iT) (hfl _ st_rU) hA3, vx_Zqof (htt _ st_lN) (htt _ st_iT) (hfl _ st_rN) hA3⟩
  have N : av_N s := fun q hq => va_Nc.of (hfl _ (st_NCP q hq))
  have S : av_SX s A b Ln xs := ⟨hX, hbl, hA3 b hbl⟩
  have had : ∀ k, 0 ≤ k → (fun k => s.heap.size + k) k = s.heap.size + k := fun _ _ => rfl
  generalize hade : (fun k => s.heap.size + k) = ad at had
  have hs0 : s.heap.size = s.heap.size + 0 := rfl
  have main : av_V p l e room_1 s m #[Value.ref b] below meth c D cl8 A ad ca 8 (lw_Z below #[Value.ref b] s) 0 0 0 (ax_en 8 [.retAddr b]) [] [] := by
    unfold fullRun at h
    obtain ⟨w1, e1, h⟩ := hp_bd h
    obtain ⟨w2, e2, h⟩ := hp_bd h
    obtain ⟨w3, e3, h⟩ := hp_bd h
    obtain ⟨w4, e4, h⟩ := hp_bd h
    obtain ⟨w5, e5, h⟩ := hp_bd h
    have he : s.heap.size + 0 = s.heap.size + ([] : List va_E).length := rfl
    refine av_nw (fs := [.null, .null, .null, .null, .null, .null, .int 0, .int 0, .int 0]) K hs0 he had la_F tq_F t_F_ok nkL_8 ni_F in_F rfl (fun j hj => nf_F j hj) (Nat.le_of_ble_eq_true rfl) (Nat.le_of_ble_eq_true rfl) d_L_law_0 (Option.some.inj e1) ?_
    have he : s.heap.size + 1 = s.heap.size + w1.length := by rw [← Option.some.inj e1]; rfl
    refine av_dup K d_L_law_3 rfl ?_
    refine av_cC K G O hs0 he had (c_F_init e2) (cwI 0 K.2.2.2.2.1 (gN co_F_init) rfl rfl rfl (htw _ in_F) (htw _ ml_L_69) (htw _ im_F_init) rfl (by decide +kernel) ⟨Nat.le_of_ble_eq_true rfl, Nat.le_of_ble_eq_true rfl⟩) rfl rfl (Nat.le_of_ble_eq_true rfl) d_L_law_4 ⟨Nat.le_of_ble_eq_true rfl, Nat.le_of_ble_eq_true rfl⟩ (fun u9 h9 => ?_)
    obtain ⟨rfl, h8⟩ := h9
    have he : s.heap.size + 59 = s.heap.size + u9.length := by rw [h8]; omega
    refine av_astore_n (L' := [some (.retAddr b), some (.ref ([] : List va_E).length), none, none, none, none, none, none]) K d_L_law_7 rfl (Nat.le_of_ble_eq_true rfl) rfl ?_
    refine av_nw (fs := [.int 0, .int 0, .null, .null, .int 0, .null, .null, .null, .null, .int 0, .null, .null, .null, .null, .null, .null, .int 0, .null, .null]) K hs0 he had la_M tq_M t_M_ok nkL_70 ni_M in_M rfl (fun j hj => nf_M j hj) (Nat.le_of_ble_eq_true rfl) (Nat.le_of_ble_eq_true rfl) d_L_law_8 (Option.some.inj e3) ?_
    have he : s.heap.size + 60 = s.heap.size + w3.length := by rw [← Option.some.inj e3, List.length_append]; simp only [List.length_cons, List.length_nil]; omega
    refine av_dup K d_L_law_11 rfl ?_
    refine av_cC K G O hs0 he had (c_M_init e4) (cwI 0 K.2.2.2.2.1 (gN co_M_init) rfl rfl rfl (htw _ in_M) (htw _ ml_L_72) (htw _ im_M_init) rfl (by decide +kernel) ⟨Nat.le_of_ble_eq_true rfl, Nat.le_of_ble_eq_true rfl⟩) rfl rfl (Nat.le_of_ble_eq_true rfl) d_L_law_12 ⟨Nat.le_of_ble_eq_true rfl, Nat.le_of_ble_eq_true rfl⟩ (fun u8 h9 => ?_)
    obtain ⟨rfl, h7⟩ := h9
    have he : s.heap.size + 74 = s.heap.size + u8.length := by rw [h7]; omega
    refine av_astore_n (L' := [some (.retAddr b), some (.ref ([] : List va_E).length), some (.ref u9.length), none, none, none, none, none]) K d_L_law_15 rfl (Nat.le_of_ble_eq_true rfl) rfl ?_
    refine av_iconst (v := (1 : Int32)) K d_L_law_16 (by decide) ?_
    refine av_na (k := 1) (N := 1) (z := (1, .inr (.inl (fun _ => 0)))) K hs0 he had ac_long rfl rfl (fun h => h) (fun _ => rfl) ⟨by decide, by decide⟩ (Nat.le_of_ble_eq_true rfl) (Nat.le_of_ble_eq_true rfl) (Nat.le_of_ble_eq_true rfl) d_L_law_17 (Option.some.inj e5) ?_
    refine av_astore_n (L' := [some (.retAddr b), some (.ref ([] : List va_E).length), some (.ref u9.length), some (.ref u8.length), none, none, none, none]) K d_L_law_19 rfl (Nat.le_of_ble_eq_true rfl) rfl ?_
    refine av_iconst (v := (0 : Int32)) K d_L_law_20 (by decide) ?_
    refine av_istore (L' := [some (.retAddr b), some (.ref ([] : List va_E).length), some (.ref u9.length), some (.ref u8.length), some (.int (0 : Int32)), none, none, none]) K d_L_law_21 (Nat.le_of_ble_eq_true rfl) rfl ?_
    exact v_L_law_23 K G X N hl S hr hA2 fu fu _ _ _ _ _ _ _ (by omega) (by omega) h
  rw [show ([Value.ref b] : List Value) = ([Value.retAddr b]).map (ax_v ad) from rfl, lg_entry_eq]
  exact main s.heap [] _ (fun k q hk => by simp [ax_W] at hk) ⟨fun i j x y hx => by simp [ax_W] at hx, fun k q hk => by simp [ax_W] at hk⟩ va_S.rf (ax_L.en ad [.retAddr b] (Nat.le_of_ble_eq_true rfl))
