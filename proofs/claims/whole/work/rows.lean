section
/-- a private method of a class that the tables say can be made, by its rows of tables_1 -/
def lw_okq (q : MethodName × Nat) : Prop := (q.1.cls ≠ "java/lang/invoke/MethodHandle" ∧ q.1.cls ≠ "java/lang/invoke/VarHandle") ∧ Cond.instantiable q.1.cls q.2 ∈ tables_1 ∧ Cond.privateMethod q.1 ∈ tables_1 ∧ Cond.instanceMethod q.1 ∈ tables_1
theorem lw_p0 : lw_okq (⟨"FaultTreeDesk", "needChance", "(I)V"⟩, 9) := ⟨⟨by decide +kernel, by decide +kernel⟩, List.mem_of_getElem? (i := 21) (by decide +kernel), List.mem_of_getElem? (i := 197) (by decide +kernel), List.mem_of_getElem? (i := 198) (by decide +kernel)⟩
theorem lw_p1 : lw_okq (⟨"java/lang/Throwable", "fillInStackTrace", "(I)Ljava/lang/Throwable;"⟩, 6) := ⟨⟨by decide +kernel, by decide +kernel⟩, List.mem_of_getElem? (i := 240) (by decide +kernel), List.mem_of_getElem? (i := 238) (by decide +kernel), List.mem_of_getElem? (i := 239) (by decide +kernel)⟩
theorem lw_p2 : lw_okq (⟨"FaultTreeDesk", "forgetAnswers", "()V"⟩, 9) := ⟨⟨by decide +kernel, by decide +kernel⟩, List.mem_of_getElem? (i := 21) (by decide +kernel), List.mem_of_getElem? (i := 286) (by decide +kernel), List.mem_of_getElem? (i := 287) (by decide +kernel)⟩
theorem lw_p3 : lw_okq (⟨"FaultTreeDesk", "needEvent", "(I)V"⟩, 9) := ⟨⟨by decide +kernel, by decide +kernel⟩, List.mem_of_getElem? (i := 21) (by decide +kernel), List.mem_of_getElem? (i := 301) (by decide +kernel), List.mem_of_getElem? (i := 302) (by decide +kernel)⟩
theorem lw_p4 : lw_okq (⟨"FaultTreeDesk", "needGate", "(I)V"⟩, 9) := ⟨⟨by decide +kernel, by decide +kernel⟩, List.mem_of_getElem? (i := 21) (by decide +kernel), List.mem_of_getElem? (i := 340) (by decide +kernel), List.mem_of_getElem? (i := 341) (by decide +kernel)⟩
theorem lw_p5 : lw_okq (⟨"FaultTreeDesk", "needTop", "()V"⟩, 9) := ⟨⟨by decide +kernel, by decide +kernel⟩, List.mem_of_getElem? (i := 21) (by decide +kernel), List.mem_of_getElem? (i := 411) (by decide +kernel), List.mem_of_getElem? (i := 412) (by decide +kernel)⟩
theorem lw_p6 : lw_okq (⟨"FaultTreeDesk", "freshenTruth", "()V"⟩, 9) := ⟨⟨by decide +kernel, by decide +kernel⟩, List.mem_of_getElem? (i := 21) (by decide +kernel), List.mem_of_getElem? (i := 416) (by decide +kernel), List.mem_of_getElem? (i := 417) (by decide +kernel)⟩
theorem lw_p7 : lw_okq (⟨"FaultTreeDesk$Truth", "fillEvent", "(II)V"⟩, 5) := ⟨⟨by decide +kernel, by decide +kernel⟩, List.mem_of_getElem? (i := 81) (by decide +kernel), List.mem_of_getElem? (i := 427) (by decide +kernel), List.mem_of_getElem? (i := 428) (by decide +kernel)⟩
theorem lw_p8 : lw_okq (⟨"FaultTreeDesk$Truth", "fillGates", "(LFaultTreeDesk$Gates;)V"⟩, 5) := ⟨⟨by decide +kernel, by decide +kernel⟩, List.mem_of_getElem? (i := 81) (by decide +kernel), List.mem_of_getElem? (i := 434) (by decide +kernel), List.mem_of_getElem? (i := 435) (by decide +kernel)⟩
theorem lw_p9 : lw_okq (⟨"FaultTreeDesk$Truth", "fillGate", "(LFaultTreeDesk$Gates;I)V"⟩, 5) := ⟨⟨by decide +kernel, by decide +kernel⟩, List.mem_of_getElem? (i := 81) (by decide +kernel), List.mem_of_getElem? (i := 439) (by decide +kernel), List.mem_of_getElem? (i := 440) (by decide +kernel)⟩
theorem lw_p10 : lw_okq (⟨"FaultTreeDesk$Truth", "listInputs", "(I)I"⟩, 5) := ⟨⟨by decide +kernel, by decide +kernel⟩, List.mem_of_getElem? (i := 81) (by decide +kernel), List.mem_of_getElem? (i := 443) (by decide +kernel), List.mem_of_getElem? (i := 444) (by decide +kernel)⟩
theorem lw_p11 : lw_okq (⟨"FaultTreeDesk$Truth", "oddWord", "(II)J"⟩, 5) := ⟨⟨by decide +kernel, by decide +kernel⟩, List.mem_of_getElem? (i := 81) (by decide +kernel), List.mem_of_getElem? (i := 447) (by decide +kernel), List.mem_of_getElem? (i := 448) (by decide +kernel)⟩
theorem lw_p12 : lw_okq (⟨"FaultTreeDesk$Truth", "atLeastWord", "(III)J"⟩, 5) := ⟨⟨by decide +kernel, by decide +kernel⟩, List.mem_of_getElem? (i := 81) (by decide +kernel), List.mem_of_getElem? (i := 451) (by decide +kernel), List.mem_of_getElem? (i := 452) (by decide +kernel)⟩
theorem lw_p13 : lw_okq (⟨"FaultTreeDesk$Diagram", "numberOf", "(III)I"⟩, 3) := ⟨⟨by decide +kernel, by decide +kernel⟩, List.mem_of_getElem? (i := 119) (by decide +kernel), List.mem_of_getElem? (i := 503) (by decide +kernel), List.mem_of_getElem? (i := 504) (by decide +kernel)⟩
theorem lw_p14 : lw_okq (⟨"FaultTreeDesk", "needTerms", "()V"⟩, 9) := ⟨⟨by decide +kernel, by decide +kernel⟩, List.mem_of_getElem? (i := 21) (by decide +kernel), List.mem_of_getElem? (i := 515) (by decide +kernel), List.mem_of_getElem? (i := 516) (by decide +kernel)⟩
theorem lw_p15 : lw_okq (⟨"FaultTreeDesk$Terms", "walk", "(II)V"⟩, 5) := ⟨⟨by decide +kernel, by decide +kernel⟩, List.mem_of_getElem? (i := 135) (by decide +kernel), List.mem_of_getElem? (i := 523) (by decide +kernel), List.mem_of_getElem? (i := 524) (by decide +kernel)⟩
def lw_privs_1 : List (MethodName × Nat) := [(⟨"FaultTreeDesk", "needChance", "(I)V"⟩, 9), (⟨"java/lang/Throwable", "fillInStackTrace", "(I)Ljava/lang/Throwable;"⟩, 6), (⟨"FaultTreeDesk", "forgetAnswers", "()V"⟩, 9), (⟨"FaultTreeDesk", "needEvent", "(I)V"⟩, 9), (⟨"FaultTreeDesk", "needGate", "(I)V"⟩, 9), (⟨"FaultTreeDesk", "needTop", "()V"⟩, 9), (⟨"FaultTreeDesk", "freshenTruth", "()V"⟩, 9), (⟨"FaultTreeDesk$Truth", "fillEvent", "(II)V"⟩, 5), (⟨"FaultTreeDesk$Truth", "fillGates", "(LFaultTreeDesk$Gates;)V"⟩, 5), (⟨"FaultTreeDesk$Truth", "fillGate", "(LFaultTreeDesk$Gates;I)V"⟩, 5), (⟨"FaultTreeDesk$Truth", "listInputs", "(I)I"⟩, 5), (⟨"FaultTreeDesk$Truth", "oddWord", "(II)J"⟩, 5), (⟨"FaultTreeDesk$Truth", "atLeastWord", "(III)J"⟩, 5), (⟨"FaultTreeDesk$Diagram", "numberOf", "(III)I"⟩, 3), (⟨"FaultTreeDesk", "needTerms", "()V"⟩, 9), (⟨"FaultTreeDesk$Terms", "walk", "(II)V"⟩, 5)]
theorem lw_r1 : ∀ q ∈ lw_privs_1, lw_okq q := List.forall_mem_cons.mpr ⟨lw_p0, List.forall_mem_cons.mpr ⟨lw_p1, List.forall_mem_cons.mpr ⟨lw_p2, List.forall_mem_cons.mpr ⟨lw_p3, List.forall_mem_cons.mpr ⟨lw_p4, List.forall_mem_cons.mpr ⟨lw_p5, List.forall_mem_cons.mpr ⟨lw_p6, List.forall_mem_cons.mpr ⟨lw_p7, List.forall_mem_cons.mpr ⟨lw_p8, List.forall_mem_cons.mpr ⟨lw_p9, List.forall_mem_cons.mpr ⟨lw_p10, List.forall_mem_cons.mpr ⟨lw_p11, List.forall_mem_cons.mpr ⟨lw_p12, List.forall_mem_cons.mpr ⟨lw_p13, List.forall_mem_cons.mpr ⟨lw_p14, List.forall_mem_cons.mpr ⟨lw_p15, fun _ h => absurd h List.not_mem_nil⟩⟩⟩⟩⟩⟩⟩⟩⟩⟩⟩⟩⟩⟩⟩⟩
theorem lw_p16 : lw_okq (⟨"FaultTreeDesk$Terms", "collect", "(I)V"⟩, 5) := ⟨⟨by decide +kernel, by decide +kernel⟩, List.mem_of_getElem? (i := 135) (by decide +kernel), List.mem_of_getElem? (i := 527) (by decide +kernel), List.mem_of_getElem? (i := 528) (by decide +kernel)⟩
theorem lw_p17 : lw_okq (⟨"FaultTreeDesk$Terms", "allKeptOrOff", "(I)J"⟩, 5) := ⟨⟨by decide +kernel, by decide +kernel⟩, List.mem_of_getElem? (i := 135) (by decide +kernel), List.mem_of_getElem? (i := 531) (by decide +kernel), List.mem_of_getElem? (i := 532) (by decide +kernel)⟩
theorem lw_p18 : lw_okq (⟨"FaultTreeDesk$Terms", "primeSettings", "(II)J"⟩, 5) := ⟨⟨by decide +kernel, by decide +kernel⟩, List.mem_of_getElem? (i := 135) (by decide +kernel), List.mem_of_getElem? (i := 537) (by decide +kernel), List.mem_of_getElem? (i := 538) (by decide +kernel)⟩
theorem lw_p19 : lw_okq (⟨"FaultTreeDesk$Terms", "flipped", "([JII)J"⟩, 5) := ⟨⟨by decide +kernel, by decide +kernel⟩, List.mem_of_getElem? (i := 135) (by decide +kernel), List.mem_of_getElem? (i := 541) (by decide +kernel), List.mem_of_getElem? (i := 542) (by decide +kernel)⟩
theorem lw_p20 : lw_okq (⟨"FaultTreeDesk$Terms", "addAll", "(IIJ)V"⟩, 5) := ⟨⟨by decide +kernel, by decide +kernel⟩, List.mem_of_getElem? (i := 135) (by decide +kernel), List.mem_of_getElem? (i := 545) (by decide +kernel), List.mem_of_getElem? (i := 546) (by decide +kernel)⟩
theorem lw_p21 : lw_okq (⟨"FaultTreeDesk$Terms", "insert", "(I)V"⟩, 5) := ⟨⟨by decide +kernel, by decide +kernel⟩, List.mem_of_getElem? (i := 135) (by decide +kernel), List.mem_of_getElem? (i := 556) (by decide +kernel), List.mem_of_getElem? (i := 557) (by decide +kernel)⟩
theorem lw_p22 : lw_okq (⟨"FaultTreeDesk$Gates", "standsAlone", "(II)Z"⟩, 5) := ⟨⟨by decide +kernel, by decide +kernel⟩, List.mem_of_getElem? (i := 53) (by decide +kernel), List.mem_of_getElem? (i := 625) (by decide +kernel), List.mem_of_getElem? (i := 626) (by decide +kernel)⟩
theorem lw_p23 : lw_okq (⟨"FaultTreeDeskModel", "isEvent", "(I)Z"⟩, 19) := ⟨⟨by decide +kernel, by decide +kernel⟩, List.mem_of_getElem? (i := 629) (by decide +kernel), List.mem_of_getElem? (i := 706) (by decide +kernel), List.mem_of_getElem? (i := 707) (by decide +kernel)⟩
theorem lw_p24 : lw_okq (⟨"FaultTreeDeskModel", "isGate", "(I)Z"⟩, 19) := ⟨⟨by decide +kernel, by decide +kernel⟩, List.mem_of_getElem? (i := 629) (by decide +kernel), List.mem_of_getElem? (i := 722) (by decide +kernel), List.mem_of_getElem? (i := 723) (by decide +kernel)⟩
theorem lw_p25 : lw_okq (⟨"FaultTreeDeskModel", "hasChild", "(II)Z"⟩, 19) := ⟨⟨by decide +kernel, by decide +kernel⟩, List.mem_of_getElem? (i := 629) (by decide +kernel), List.mem_of_getElem? (i := 726) (by decide +kernel), List.mem_of_getElem? (i := 727) (by decide +kernel)⟩
theorem lw_p26 : lw_okq (⟨"FaultTreeDeskModel", "findBelow", "()V"⟩, 19) := ⟨⟨by decide +kernel, by decide +kernel⟩, List.mem_of_getElem? (i := 629) (by decide +kernel), List.mem_of_getElem? (i := 730) (by decide +kernel), List.mem_of_getElem? (i := 731) (by decide +kernel)⟩
theorem lw_p27 : lw_okq (⟨"FaultTreeDeskModel", "lacks", "(I)Z"⟩, 19) := ⟨⟨by decide +kernel, by decide +kernel⟩, List.mem_of_getElem? (i := 629) (by decide +kernel), List.mem_of_getElem? (i := 742) (by decide +kernel), List.mem_of_getElem? (i := 743) (by decide +kernel)⟩
theorem lw_p28 : lw_okq (⟨"FaultTreeDeskModel", "work", "()V"⟩, 19) := ⟨⟨by decide +kernel, by decide +kernel⟩, List.mem_of_getElem? (i := 629) (by decide +kernel), List.mem_of_getElem? (i := 746) (by decide +kernel), List.mem_of_getElem? (i := 747) (by decide +kernel)⟩
theorem lw_p29 : lw_okq (⟨"FaultTreeDeskModel", "sort", "()V"⟩, 19) := ⟨⟨by decide +kernel, by decide +kernel⟩, List.mem_of_getElem? (i := 629) (by decide +kernel), List.mem_of_getElem? (i := 750) (by decide +kernel), List.mem_of_getElem? (i := 751) (by decide +kernel)⟩
theorem lw_p30 : lw_okq (⟨"FaultTreeDeskModel", "isOn", "(II)Z"⟩, 19) := ⟨⟨by decide +kernel, by decide +kernel⟩, List.mem_of_getElem? (i := 629) (by decide +kernel), List.mem_of_getElem? (i := 754) (by decide +kernel), List.mem_of_getElem? (i := 755) (by decide +kernel)⟩
theorem lw_p31 : lw_okq (⟨"FaultTreeDeskModel", "sum", "()J"⟩, 19) := ⟨⟨by decide +kernel, by decide +kernel⟩, List.mem_of_getElem? (i := 629) (by decide +kernel), List.mem_of_getElem? (i := 762) (by decide +kernel), List.mem_of_getElem? (i := 763) (by decide +kernel)⟩
def lw_privs_2 : List (MethodName × Nat) := [(⟨"FaultTreeDesk$Terms", "collect", "(I)V"⟩, 5), (⟨"FaultTreeDesk$Terms", "allKeptOrOff", "(I)J"⟩, 5), (⟨"FaultTreeDesk$Terms", "primeSettings", "(II)J"⟩, 5), (⟨"FaultTreeDesk$Terms", "flipped", "([JII)J"⟩, 5), (⟨"FaultTreeDesk$Terms", "addAll", "(IIJ)V"⟩, 5), (⟨"FaultTreeDesk$Terms", "insert", "(I)V"⟩, 5), (⟨"FaultTreeDesk$Gates", "standsAlone", "(II)Z"⟩, 5), (⟨"FaultTreeDeskModel", "isEvent", "(I)Z"⟩, 19), (⟨"FaultTreeDeskModel", "isGate", "(I)Z"⟩, 19), (⟨"FaultTreeDeskModel", "hasChild", "(II)Z"⟩, 19), (⟨"FaultTreeDeskModel", "findBelow", "()V"⟩, 19), (⟨"FaultTreeDeskModel", "lacks", "(I)Z"⟩, 19), (⟨"FaultTreeDeskModel", "work", "()V"⟩, 19), (⟨"FaultTreeDeskModel", "sort", "()V"⟩, 19), (⟨"FaultTreeDeskModel", "isOn", "(II)Z"⟩, 19), (⟨"FaultTreeDeskModel", "sum", "()J"⟩, 19)]
theorem lw_r2 : ∀ q ∈ lw_privs_2, lw_okq q := List.forall_mem_cons.mpr ⟨lw_p16, List.forall_mem_cons.mpr ⟨lw_p17, List.forall_mem_cons.mpr ⟨lw_p18, List.forall_mem_cons.mpr ⟨lw_p19, List.forall_mem_cons.mpr ⟨lw_p20, List.forall_mem_cons.mpr ⟨lw_p21, List.forall_mem_cons.mpr ⟨lw_p22, List.forall_mem_cons.mpr ⟨lw_p23, List.forall_mem_cons.mpr ⟨lw_p24, List.forall_mem_cons.mpr ⟨lw_p25, List.forall_mem_cons.mpr ⟨lw_p26, List.forall_mem_cons.mpr ⟨lw_p27, List.forall_mem_cons.mpr ⟨lw_p28, List.forall_mem_cons.mpr ⟨lw_p29, List.forall_mem_cons.mpr ⟨lw_p30, List.forall_mem_cons.mpr ⟨lw_p31, fun _ h => absurd h List.not_mem_nil⟩⟩⟩⟩⟩⟩⟩⟩⟩⟩⟩⟩⟩⟩⟩⟩
theorem lw_p32 : lw_okq (⟨"FaultTreeDeskModel", "matters", "(II)Z"⟩, 19) := ⟨⟨by decide +kernel, by decide +kernel⟩, List.mem_of_getElem? (i := 629) (by decide +kernel), List.mem_of_getElem? (i := 779) (by decide +kernel), List.mem_of_getElem? (i := 780) (by decide +kernel)⟩
theorem lw_p33 : lw_okq (⟨"FaultTreeDeskModel", "alike", "(III)Z"⟩, 19) := ⟨⟨by decide +kernel, by decide +kernel⟩, List.mem_of_getElem? (i := 629) (by decide +kernel), List.mem_of_getElem? (i := 783) (by decide +kernel), List.mem_of_getElem? (i := 784) (by decide +kernel)⟩
theorem lw_p34 : lw_okq (⟨"FaultTreeDeskModel", "fails", "(I)Z"⟩, 19) := ⟨⟨by decide +kernel, by decide +kernel⟩, List.mem_of_getElem? (i := 629) (by decide +kernel), List.mem_of_getElem? (i := 791) (by decide +kernel), List.mem_of_getElem? (i := 792) (by decide +kernel)⟩
theorem lw_p35 : lw_okq (⟨"FaultTreeDeskModel", "findPrimes", "()Z"⟩, 19) := ⟨⟨by decide +kernel, by decide +kernel⟩, List.mem_of_getElem? (i := 629) (by decide +kernel), List.mem_of_getElem? (i := 795) (by decide +kernel), List.mem_of_getElem? (i := 796) (by decide +kernel)⟩
theorem lw_p36 : lw_okq (⟨"FaultTreeDeskModel", "settingOf", "(I)I"⟩, 19) := ⟨⟨by decide +kernel, by decide +kernel⟩, List.mem_of_getElem? (i := 629) (by decide +kernel), List.mem_of_getElem? (i := 802) (by decide +kernel), List.mem_of_getElem? (i := 803) (by decide +kernel)⟩
theorem lw_p37 : lw_okq (⟨"FaultTreeDeskModel", "isCause", "(I)Z"⟩, 19) := ⟨⟨by decide +kernel, by decide +kernel⟩, List.mem_of_getElem? (i := 629) (by decide +kernel), List.mem_of_getElem? (i := 806) (by decide +kernel), List.mem_of_getElem? (i := 807) (by decide +kernel)⟩
theorem lw_p38 : lw_okq (⟨"FaultTreeDeskModel", "isPrime", "(I)Z"⟩, 19) := ⟨⟨by decide +kernel, by decide +kernel⟩, List.mem_of_getElem? (i := 629) (by decide +kernel), List.mem_of_getElem? (i := 811) (by decide +kernel), List.mem_of_getElem? (i := 812) (by decide +kernel)⟩
theorem lw_p39 : lw_okq (⟨"FaultTreeDeskModel", "eventsOf", "(II)I"⟩, 19) := ⟨⟨by decide +kernel, by decide +kernel⟩, List.mem_of_getElem? (i := 629) (by decide +kernel), List.mem_of_getElem? (i := 815) (by decide +kernel), List.mem_of_getElem? (i := 816) (by decide +kernel)⟩
theorem lw_p40 : lw_okq (⟨"FaultTreeDeskModel", "keep", "(II)V"⟩, 19) := ⟨⟨by decide +kernel, by decide +kernel⟩, List.mem_of_getElem? (i := 629) (by decide +kernel), List.mem_of_getElem? (i := 819) (by decide +kernel), List.mem_of_getElem? (i := 820) (by decide +kernel)⟩
theorem lw_p41 : lw_okq (⟨"FaultTreeDeskModel", "isUnder", "(II)Z"⟩, 19) := ⟨⟨by decide +kernel, by decide +kernel⟩, List.mem_of_getElem? (i := 629) (by decide +kernel), List.mem_of_getElem? (i := 841) (by decide +kernel), List.mem_of_getElem? (i := 842) (by decide +kernel)⟩
def lw_privs_3 : List (MethodName × Nat) := [(⟨"FaultTreeDeskModel", "matters", "(II)Z"⟩, 19), (⟨"FaultTreeDeskModel", "alike", "(III)Z"⟩, 19), (⟨"FaultTreeDeskModel", "fails", "(I)Z"⟩, 19), (⟨"FaultTreeDeskModel", "findPrimes", "()Z"⟩, 19), (⟨"FaultTreeDeskModel", "settingOf", "(I)I"⟩, 19), (⟨"FaultTreeDeskModel", "isCause", "(I)Z"⟩, 19), (⟨"FaultTreeDeskModel", "isPrime", "(I)Z"⟩, 19), (⟨"FaultTreeDeskModel", "eventsOf", "(II)I"⟩, 19), (⟨"FaultTreeDeskModel", "keep", "(II)V"⟩, 19), (⟨"FaultTreeDeskModel", "isUnder", "(II)Z"⟩, 19)]
theorem lw_r3 : ∀ q ∈ lw_privs_3, lw_okq q := List.forall_mem_cons.mpr ⟨lw_p32, List.forall_mem_cons.mpr ⟨lw_p33, List.forall_mem_cons.mpr ⟨lw_p34, List.forall_mem_cons.mpr ⟨lw_p35, List.forall_mem_cons.mpr ⟨lw_p36, List.forall_mem_cons.mpr ⟨lw_p37, List.forall_mem_cons.mpr ⟨lw_p38, List.forall_mem_cons.mpr ⟨lw_p39, List.forall_mem_cons.mpr ⟨lw_p40, List.forall_mem_cons.mpr ⟨lw_p41, fun _ h => absurd h List.not_mem_nil⟩⟩⟩⟩⟩⟩⟩⟩⟩⟩
def lw_privs : List (MethodName × Nat) := lw_privs_1 ++ (lw_privs_2 ++ (lw_privs_3))
def lw_tbl : List Cond := k2_sels lw_privs ++ tables_1
theorem lw_privs_ok : ∀ q ∈ lw_privs, lw_okq q := by
  show ∀ q ∈ lw_privs_1 ++ (lw_privs_2 ++ (lw_privs_3)), lw_okq q
  exact List.forall_mem_append.mpr ⟨lw_r1, List.forall_mem_append.mpr ⟨lw_r2, lw_r3⟩⟩
end
section
/-! abstract worlds: a reference is a place in the list of cells; ad gives the address of a place -/
def ax_v (ad : Nat → Nat) (v : Value) : Value := match v with
  | .ref k => .ref (ad k)
  | .int x => .int x
  | .long x => .long x
  | .float x => .float x
  | .double x => .double x
  | .null => .null
  | .retAddr x => .retAddr x
theorem ax_v_cat (ad : Nat → Nat) (v : Value) : (ax_v ad v).category = v.category := by cases v <;> rfl
def ax_A (ad : Nat → Nat) (a : vp_A) : vp_A := match a with
  | (n, .inl f) => (n, .inl f)
  | (n, .inr (.inl f)) => (n, .inr (.inl f))
  | (n, .inr (.inr (.inl f))) => (n, .inr (.inr (.inl f)))
  | (n, .inr (.inr (.inr (.inl f)))) => (n, .inr (.inr (.inr (.inl f))))
  | (n, .inr (.inr (.inr (.inr f)))) => (n, .inr (.inr (.inr (.inr (fun j => (f j).map ad)))))
def ax_E (ad ca : Nat → Nat) (q : va_E) : va_E := match q with
  | .inl (c, a) => .inl (ca c, ax_A ad a)
  | .inr (c, fs) => .inr (c, fs.map (ax_v ad))
def ax_W (ad ca : Nat → Nat) (w : List va_E) : va_W := w.mapIdx (fun k c => (ad k, ax_E ad ca c))
/-- the array classes: 0 int, 1 long, 2 boolean, 3 long[] -/
def ax_ty (ca : Nat → Nat) : List (ClassId × FieldType) := [(ca 0, .int), (ca 1, .long), (ca 2, .boolean), (ca 3, .array .long)]
theorem ax_W_get (ad ca : Nat → Nat) (w : List va_E) (k : Nat) : (ax_W ad ca w)[k]? = (w[k]?).map (fun c => (ad k, ax_E ad ca c)) := by
  simp [ax_W, List.getElem?_mapIdx]
theorem ax_W_at {ad ca : Nat → Nat} {w : List va_E} {k : Nat} {c : va_E} (h : w[k]? = some c) : (ax_W ad ca w)[k]? = some (ad k, ax_E ad ca c) := by
  rw [ax_W_get, h]; rfl
theorem ax_W_set (ad ca : Nat → Nat) (w : List va_E) (k : Nat) (c : va_E) : (ax_W ad ca w).set k (ad k, ax_E ad ca c) = ax_W ad ca (w.set k c) := by
  apply List.ext_getElem?
  intro i
  rw [List.getElem?_set, ax_W_get, ax_W_get, List.getElem?_set]
  have hl : (ax_W ad ca w).length = w.length := by simp [ax_W]
  rw [hl]
  by_cases h : k = i
  · subst h
    by_cases h2 : k < w.length <;> simp [h2]
  · simp [h]
/-! locals: place by place -/
def ax_L (ls : Array Slot) (nL : Nat) (ad : Nat → Nat) (L : List (Option Value)) : Prop := ls.size = nL ∧ lv_wf ls ∧ ∀ (i : Nat) (v : Value), L[i]? = some (some v) → ls[i]? = some (.val (ax_v ad v))
def ax_ll (ad : Nat → Nat) (L : List (Option Value)) : List (Nat × Value) := (List.range L.length).filterMap (fun i => match L[i]? with
  | some (some v) => some (i, ax_v ad v)
  | _ => none)
theorem ax_ll_in {ad : Nat → Nat} {L : List (Option Value)} {i : Nat} {v : Value} (h : L[i]? = some (some v)) : (i, ax_v ad v) ∈ ax_ll ad L := by
  refine List.mem_filterMap.mpr ⟨i, List.mem_range.mpr (List.getElem?_eq_some_iff.mp h).1, ?_⟩
  rw [h]
theorem ax_ll_of {ad : Nat → Nat} {L : List (Option Value)} {q : Nat × Value} (h : q ∈ ax_ll ad L) : ∃ v, L[q.1]? = some (some v) ∧ q.2 = ax_v ad v := by
  obtain ⟨i, -, hi⟩ := List.mem_filterMap.mp h
  cases hL : L[i]? with
  | none => rw [hL] at hi; cases hi
  | some o =>
    cases o with
    | none => rw [hL] at hi; cases hi
    | some v =>
      rw [hL] at hi
      cases hi
      exact ⟨v, hL, rfl⟩
theorem ax_L.has {ls : Array Slot} {nL : Nat} {ad : Nat → Nat} {L : List (Option Value)} (h : ax_L ls nL ad L) : lv_has ls nL (ax_ll ad L) := by
  refine ⟨h.1, h.2.1, fun q hq => ?_⟩
  obtain ⟨v, h1, h2⟩ := ax_ll_of hq
  rw [h2]
  exact h.2.2 _ _ h1
def ax_cb (L : List (Option Value)) (i : Nat) : List (Option Value) := match i with
  | 0 => L
  | j + 1 => match L[j]? with
    | some (some (.long _)) => L.set j none
    | some (some (.double _)) => L.set j none
    | _ => L
def ax_s1 (L : List (Option Value)) (i : Nat) (v : Value) : List (Option Value) := (ax_cb L i).set i (some v)
def ax_s2 (L : List (Option Value)) (i : Nat) (v : Value) : List (Option Value) := ((ax_cb L i).set (i + 1) none).set i (some v)
theorem ax_cb_sub {L : List (Option Value)} {i j : Nat} {u : Value} (h : (ax_cb L i)[j]? = some (some u)) : L[j]? = some (some u) ∧ ¬ (j + 1 = i ∧ u.category = 2) := by
  cases i with
  | zero => exact ⟨h, fun z => by omega⟩
  | succ k =>
    have key : ∀ (o : Option (Option Value)), L[k]? = o → (L.set k none)[j]? = some (some u) → L[j]? = some (some u) ∧ ¬ (j + 1 = k + 1 ∧ u.category = 2) := by
      intro o _ h
      rw [List.getElem?_set] at h
      by_cases hk : k = j
      · rw [if_pos hk] at h
        split at h <;> cases h
      · rw [if_neg hk] at h
        exact ⟨h, fun z => hk (by omega)⟩
    have h2 : (match L[k]? with
      | some (some (.long _)) => L.set k none
      | some (some (.double _)) => L.set k none
      | _ => L)[j]? = some (some u) := h
    clear h
    split at h2
    · exact key _ rfl h2
    · exact key _ rfl h2
    · rename_i n1 n2
      have h := h2
      refine ⟨h, fun z => ?_⟩
      obtain ⟨z1, z2⟩ := z
      have : j = k := by omega
      subst this
      cases u with
      | long x => exact n1 x h
      | double x => exact n2 x h
      | _ => simp [Value.category] at z2
theorem ax_L.s1 {ls' : Array Slot} {nL i : Nat} {ad : Nat → Nat} {L : List (Option Value)} {v : Value} (h : lv_has ls' nL ((i, ax_v ad v) :: (ax_ll ad L).filter (fun q => !(q.1 == i) && !(q.1 + 1 == i && q.2.category == 2)))) : ax_L ls' nL ad (ax_s1 L i v) := by
  refine ⟨h.1, h.2.1, fun j u hj => ?_⟩
  unfold ax_s1 at hj
  rw [List.getElem?_set] at hj
  by_cases hi : i = j
  · subst hi
    rw [if_pos rfl] at hj
    split at hj
    · cases hj
      exact h.2.2 (i, ax_v ad v) List.mem_cons_self
    · cases hj
  · rw [if_neg hi] at hj
    obtain ⟨h1, h2⟩ := ax_cb_sub hj
    refine h.2.2 (j, ax_v ad u) (List.mem_cons_of_mem _ (List.mem_filter.mpr ⟨ax_ll_in h1, ?_⟩))
    have e1 : (j == i) = false := by simpa using fun z : j = i => hi z.symm
    have e2 : (j + 1 == i && (ax_v ad u).category == 2) = false := by
      rw [ax_v_cat]
      cases hx : (j + 1 == i && u.category == 2) with
      | false => rfl
      | true => simp at hx; exact absurd hx h2
    simp only [e1, e2]
    rfl
theorem ax_L.s2 {ls' : Array Slot} {nL i : Nat} {ad : Nat → Nat} {L : List (Option Value)} {v : Value} (h : lv_has ls' nL ((i, ax_v ad v) :: (ax_ll ad L).filter (fun q => !(q.1 == i) && (!(q.1 == i + 1) && !(q.1 + 1 == i && q.2.category == 2))))) : ax_L ls' nL ad (ax_s2 L i v) := by
  refine ⟨h.1, h.2.1, fun j u hj => ?_⟩
  unfold ax_s2 at hj
  rw [List.getElem?_set] at hj
  by_cases hi : i = j
  · subst hi
    rw [if_pos rfl] at hj
    split at hj
    · cases hj
      exact h.2.2 (i, ax_v ad v) List.mem_cons_self
    · cases hj
  · rw [if_neg hi, List.getElem?_set] at hj
    by_cases hi2 : i + 1 = j
    · rw [if_pos hi2] at hj
      split at hj <;> cases hj
    · rw [if_neg hi2] at hj
      obtain ⟨h1, h2⟩ := ax_cb_sub hj
      refine h.2.2 (j, ax_v ad u) (List.mem_cons_of_mem _ (List.mem_filter.mpr ⟨ax_ll_in h1, ?_⟩))
      have e1 : (j == i) = false := by simpa using fun z : j = i => hi z.symm
      have e3 : (j == i + 1) = false := by simpa using fun z : j = i + 1 => hi2 z.symm
      have e2 : (j + 1 == i && (ax_v ad u).category == 2) = false := by
        rw [ax_v_cat]
        cases hx : (j + 1 == i && u.category == 2) with
        | false => rfl
        | true => simp at hx; exact absurd hx h2
      simp only [e1, e2, e3]
      rfl
/-- the locals with which a method begins -/
def ax_ar : List Value → List (Option Value)
  | [] => []
  | .long x :: vs => some (.long x) :: none :: ax_ar vs
  | .double x :: vs => some (.double x) :: none :: ax_ar vs
  | v :: vs => some v :: ax_ar vs
def ax_en (n : Nat) (vs : List Value) : List (Option Value) := ax_ar vs ++ List.replicate (n - (ax_ar vs).length) none
theorem ax_ar_in (ad : Nat → Nat) (vs : List Value) : ∀ (b i : Nat) (v : Value), (ax_ar vs)[i]? = some (some v) → (b + i, ax_v ad v) ∈ lv_args b (vs.map (ax_v ad)) := by
  induction vs with
  | nil => intro b i v h; simp [ax_ar] at h
  | cons u vs ih =>
    intro b i v h
    have one : u.category = 1 → ax_ar (u :: vs) = some u :: ax_ar vs → (b + i, ax_v ad v) ∈ lv_args b ((u :: vs).map (ax_v ad)) := by
      intro hc he
      rw [he] at h
      show _ ∈ (b, ax_v ad u) :: lv_args _ _
      rw [ax_v_cat, if_neg (by omega)]
      cases i with
      | zero => simp at h; subst h; exact List.mem_cons_self
      | succ k =>
        simp at h
        have := ih (b + 1) k v h
        rw [show b + (k + 1) = b + 1 + k by omega]
        exact List.mem_cons_of_mem _ this
    have two : u.category = 2 → ax_ar (u :: vs) = some u :: none :: ax_ar vs → (b + i, ax_v ad v) ∈ lv_args b ((u :: vs).map (ax_v ad)) := by
      intro hc he
      rw [he] at h
      show _ ∈ (b, ax_v ad u) :: lv_args _ _
      rw [ax_v_cat, if_pos hc]
      cases i with
      | zero => simp at h; subst h; exact List.mem_cons_self
      | succ k =>
        cases k with
        | zero => simp at h
        | succ k =>
          simp at h
          have := ih (b + 2) k v h
          rw [show b + (k + 1 + 1) = b + 2 + k by omega]
          exact List.mem_cons_of_mem _ this
    cases u with
    | long x => exact two rfl rfl
    | double x => exact two rfl rfl
    | _ => exact one rfl rfl
theorem ax_ar_len (ad : Nat → Nat) (vs : List Value) : (lg_sl (vs.map (ax_v ad))).length = (ax_ar vs).length := by
  induction vs with
  | nil => rfl
  | cons u vs ih =>
    have h : lg_sl ((u :: vs).map (ax_v ad)) = (if (ax_v ad u).category = 2 then [Slot.val (ax_v ad u), Slot.second] else [Slot.val (ax_v ad u)]) ++ lg_sl (vs.map (ax_v ad)) := by simp [lg_sl]
    rw [h, List.length_append, ih]
    cases u <;> simp [ax_ar, ax_v, Value.category] <;> omega
theorem ax_L.en (ad : Nat → Nat) (vs : List Value) {n : Nat} (h : (ax_ar vs).length ≤ n) : ax_L ((lg_sl (vs.map (ax_v ad)) ++ List.replicate (n - (lg_sl (vs.map (ax_v ad))).length) Slot.unset).toArray) n ad (ax_en n vs) := by
  have h0 := lv_entry (vs.map (ax_v ad)) (n := n) (by rw [ax_ar_len]; exact h)
  refine ⟨h0.1, h0.2.1, fun i v hi => ?_⟩
  unfold ax_en at hi
  by_cases hl : i < (ax_ar vs).length
  · rw [List.getElem?_append_left hl] at hi
    have := ax_ar_in ad vs 0 i v hi
    rw [Nat.zero_add] at this
    exact h0.2.2 _ this
  · rw [List.getElem?_append_right (by omega), List.getElem?_replicate] at hi
    split at hi <;> cases hi
/-! the judgement: what W says, of every heap that holds the world -/
def av_K (p : Program) (s : State) (m : MethodId) (args : Array Value) (meth : Method) (c : Code) (D : va_G) (cl : List vw_C) (ca : Nat → Nat) (A : Nat → Prop) (cc : ByteArray) (nL : Nat) (own : String) (Ts : List Cond) : Prop :=
  p.tables.exec = Jvm.exec ∧ c.code = cc ∧ c.maxLocals = nL ∧ s.vm.findClass own = some m.cls ∧ (∀ w ∈ Ts, w.before args s = true) ∧ va_K D cl (ax_ty ca) s ∧ (∀ q : Nat, s.heap.size ≤ q → A q) ∧ meth.locks = false
def av_V (p : Program) (l : Launch) (e : Env) (R : Room) (s : State) (m : MethodId) (args : Array Value) (below : List Frame) (meth : Method) (c : Code) (D : va_G) (cl : List vw_C) (A : Nat → Prop) (ad ca : Nat → Nat) (nL : Nat) (Q : State → Prop) (cells slots pc : Nat) (L : List (Option Value)) (st : List Value) (w : List va_E) : Prop :=
  ∀ (H : Heap) (locs : List Loc) (ls : Array Slot), va_P D cl (ax_W ad ca w) H → va_D A (ax_W ad ca w) → va_S A s.heap H locs → ax_L ls nL ad L → W p l e R s m args below meth c H locs cells slots Q (F0 m pc ls (st.map (ax_v ad)))
section AV
variable {p : Program} {l : Launch} {e : Env} {R : Room} {s : State} {m : MethodId} {args : Array Value} {below : List Frame} {meth : Method} {c : Code} {cells slots : Nat} {Q : State → Prop}
variable {D : va_G} {cl : List vw_C} {A : Nat → Prop} {ad ca : Nat → Nat} {cc : ByteArray} {nL : Nat} {own : String} {Ts : List Cond}
variable {pc : Nat} {L L' : List (Option Value)} {st : List Value} {w w' : List va_E}

theorem av_iconst (K : av_K p s m args meth c D cl ca A cc nL own Ts) {n : Int} {v : Int32} (hd : decode cc pc = .ok (.iconst n, 1)) (hv : Int32.ofInt n = v) (k : av_V p l e R s m args below meth c D cl A ad ca nL Q cells slots (pc + 1) L (.int v :: st) w) : av_V p l e R s m args below meth c D cl A ad ca nL Q cells slots pc L (st) w := fun H locs ls hP hD hS hL => lv_iconst K.1 K.2.1 hd hv (k H locs ls hP hD hS hL)
theorem av_bipush (K : av_K p s m args meth c D cl ca A cc nL own Ts) {n : Int} {v : Int32} (hd : decode cc pc = .ok (.bipush n, 2)) (hv : (Int8.ofInt n).toInt32 = v) (k : av_V p l e R s m args below meth c D cl A ad ca nL Q cells slots (pc + 2) L (.int v :: st) w) : av_V p l e R s m args below meth c D cl A ad ca nL Q cells slots pc L (st) w := fun H locs ls hP hD hS hL => lv_bipush K.1 K.2.1 hd hv (k H locs ls hP hD hS hL)
theorem av_sipush (K : av_K p s m args meth c D cl ca A cc nL own Ts) {n : Int} {v : Int32} (hd : decode cc pc = .ok (.sipush n, 3)) (hv : (Int16.ofInt n).toInt32 = v) (k : av_V p l e R s m args below meth c D cl A ad ca nL Q cells slots (pc + 3) L (.int v :: st) w) : av_V p l e R s m args below meth c D cl A ad ca nL Q cells slots pc L (st) w := fun H locs ls hP hD hS hL => lv_sipush K.1 K.2.1 hd hv (k H locs ls hP hD hS hL)
theorem av_lconst (K : av_K p s m args meth c D cl ca A cc nL own Ts) {n : Fin 2} {v : Int64} (hd : decode cc pc = .ok (.lconst n, 1)) (hv : Int64.ofNat (n : Nat) = v) (k : av_V p l e R s m args below meth c D cl A ad ca nL Q cells slots (pc + 1) L (.long v :: st) w) : av_V p l e R s m args below meth c D cl A ad ca nL Q cells slots pc L (st) w := fun H locs ls hP hD hS hL => lv_lconst K.1 K.2.1 hd hv (k H locs ls hP hD hS hL)
theorem av_iload_n (K : av_K p s m args meth c D cl ca A cc nL own Ts) {k0 : Fin 4} {i : Nat} {x : Int32} (hd : decode cc pc = .ok (.iload_n k0, 1)) (hi : (k0 : Nat) = i) (hl : L[i]? = some (some (.int x))) (k : av_V p l e R s m args below meth c D cl A ad ca nL Q cells slots (pc + 1) L (.int x :: st) w) : av_V p l e R s m args below meth c D cl A ad ca nL Q cells slots pc L (st) w := fun H locs ls hP hD hS hL => lv_iload_n K.1 K.2.1 hd hi (hL.2.2 i _ hl) (k H locs ls hP hD hS hL)
theorem av_iload (K : av_K p s m args meth c D cl ca A cc nL own Ts) {i : Nat} {x : Int32} (hd : decode cc pc = .ok (.iload i, 2)) (hl : L[i]? = some (some (.int x))) (k : av_V p l e R s m args below meth c D cl A ad ca nL Q cells slots (pc + 2) L (.int x :: st) w) : av_V p l e R s m args below meth c D cl A ad ca nL Q cells slots pc L (st) w := fun H locs ls hP hD hS hL => lv_iload K.1 K.2.1 hd (hL.2.2 i _ hl) (k H locs ls hP hD hS hL)
theorem av_istore_n (K : av_K p s m args meth c D cl ca A cc nL own Ts) {k0 : Fin 4} {i : Nat} {x : Int32} (hd : decode cc pc = .ok (.istore_n k0, 1)) (hi : (k0 : Nat) = i) (hn : i < nL) (hl : ax_s1 L i (.int x) = L') (k : av_V p l e R s m args below meth c D cl A ad ca nL Q cells slots (pc + 1) L' st w) : av_V p l e R s m args below meth c D cl A ad ca nL Q cells slots pc L (.int x :: st) w := fun H locs ls hP hD hS hL => lv_istore_n K.1 K.2.1 hd hi hL.has hn rfl (fun ls' h' => k H locs ls' hP hD hS (hl ▸ ax_L.s1 (v := .int x) h'))
theorem av_istore (K : av_K p s m args meth c D cl ca A cc nL own Ts) {i : Nat} {x : Int32} (hd : decode cc pc = .ok (.istore i, 2)) (hn : i < nL) (hl : ax_s1 L i (.int x) = L') (k : av_V p l e R s m args below meth c D cl A ad ca nL Q cells slots (pc + 2) L' st w) : av_V p l e R s m args below meth c D cl A ad ca nL Q cells slots pc L (.int x :: st) w := fun H locs ls hP hD hS hL => lv_istore K.1 K.2.1 hd hL.has hn rfl (fun ls' h' => k H locs ls' hP hD hS (hl ▸ ax_L.s1 (v := .int x) h'))
theorem av_lload_n (K : av_K p s m args meth c D cl ca A cc nL own Ts) {k0 : Fin 4} {i : Nat} {x : Int64} (hd : decode cc pc = .ok (.lload_n k0, 1)) (hi : (k0 : Nat) = i) (hl : L[i]? = some (some (.long x))) (k : av_V p l e R s m args below meth c D cl A ad ca nL Q cells slots (pc + 1) L (.long x :: st) w) : av_V p l e R s m args below meth c D cl A ad ca nL Q cells slots pc L (st) w := fun H locs ls hP hD hS hL => lv_lload_n K.1 K.2.1 hd hi (hL.2.2 i _ hl) (k H locs ls hP hD hS hL)
theorem av_lload (K : av_K p s m args meth c D cl ca A cc nL own Ts) {i : Nat} {x : Int64} (hd : decode cc pc = .ok (.lload i, 2)) (hl : L[i]? = some (some (.long x))) (k : av_V p l e R s m args below meth c D cl A ad ca nL Q cells slots (pc + 2) L (.long x :: st) w) : av_V p l e R s m args below meth c D cl A ad ca nL Q cells slots pc L (st) w := fun H locs ls hP hD hS hL => lv_lload K.1 K.2.1 hd (hL.2.2 i _ hl) (k H locs ls hP hD hS hL)
theorem av_lstore_n (K : av_K p s m args meth c D cl ca A cc nL own Ts) {k0 : Fin 4} {i : Nat} {x : Int64} (hd : decode cc pc = .ok (.lstore_n k0, 1)) (hi : (k0 : Nat) = i) (hn : i + 1 < nL) (hl : ax_s2 L i (.long x) = L') (k : av_V p l e R s m args below meth c D cl A ad ca nL Q cells slots (pc + 1) L' st w) : av_V p l e R s m args below meth c D cl A ad ca nL Q cells slots pc L (.long x :: st) w := fun H locs ls hP hD hS hL => lv_lstore_n K.1 K.2.1 hd hi hL.has hn rfl (fun ls' h' => k H locs ls' hP hD hS (hl ▸ ax_L.s2 (v := .long x) h'))
theorem av_lstore (K : av_K p s m args meth c D cl ca A cc nL own Ts) {i : Nat} {x : Int64} (hd : decode cc pc = .ok (.lstore i, 2)) (hn : i + 1 < nL) (hl : ax_s2 L i (.long x) = L') (k : av_V p l e R s m args below meth c D cl A ad ca nL Q cells slots (pc + 2) L' st w) : av_V p l e R s m args below meth c D cl A ad ca nL Q cells slots pc L (.long x :: st) w := fun H locs ls hP hD hS hL => lv_lstore K.1 K.2.1 hd hL.has hn rfl (fun ls' h' => k H locs ls' hP hD hS (hl ▸ ax_L.s2 (v := .long x) h'))
theorem av_aload_n (K : av_K p s m args meth c D cl ca A cc nL own Ts) {k0 : Fin 4} {i : Nat} {x : Nat} (hd : decode cc pc = .ok (.aload_n k0, 1)) (hi : (k0 : Nat) = i) (hl : L[i]? = some (some (.ref x))) (k : av_V p l e R s m args below meth c D cl A ad ca nL Q cells slots (pc + 1) L (.ref x :: st) w) : av_V p l e R s m args below meth c D cl A ad ca nL Q cells slots pc L (st) w := fun H locs ls hP hD hS hL => lv_aload_n K.1 K.2.1 hd hi (hL.2.2 i _ hl) (k H locs ls hP hD hS hL)
theorem av_aload (K : av_K p s m args meth c D cl ca A cc nL own Ts) {i : Nat} {x : Nat} (hd : decode cc pc = .ok (.aload i, 2)) (hl : L[i]? = some (some (.ref x))) (k : av_V p l e R s m args below meth c D cl A ad ca nL Q cells slots (pc + 2) L (.ref x :: st) w) : av_V p l e R s m args below meth c D cl A ad ca nL Q cells slots pc L (st) w := fun H locs ls hP hD hS hL => lv_aload K.1 K.2.1 hd (hL.2.2 i _ hl) (k H locs ls hP hD hS hL)
theorem av_astore_n (K : av_K p s m args meth c D cl ca A cc nL own Ts) {k0 : Fin 4} {i : Nat} {x : Nat} (hd : decode cc pc = .ok (.astore_n k0, 1)) (hi : (k0 : Nat) = i) (hn : i < nL) (hl : ax_s1 L i (.ref x) = L') (k : av_V p l e R s m args below meth c D cl A ad ca nL Q cells slots (pc + 1) L' st w) : av_V p l e R s m args below meth c D cl A ad ca nL Q cells slots pc L (.ref x :: st) w := fun H locs ls hP hD hS hL => lv_astore_n K.1 K.2.1 hd hi hL.has hn rfl (fun ls' h' => k H locs ls' hP hD hS (hl ▸ ax_L.s1 (v := .ref x) h'))
theorem av_astore (K : av_K p s m args meth c D cl ca A cc nL own Ts) {i : Nat} {x : Nat} (hd : decode cc pc = .ok (.astore i, 2)) (hn : i < nL) (hl : ax_s1 L i (.ref x) = L') (k : av_V p l e R s m args below meth c D cl A ad ca nL Q cells slots (pc + 2) L' st w) : av_V p l e R s m args below meth c D cl A ad ca nL Q cells slots pc L (.ref x :: st) w := fun H locs ls hP hD hS hL => lv_astore K.1 K.2.1 hd hL.has hn rfl (fun ls' h' => k H locs ls' hP hD hS (hl ▸ ax_L.s1 (v := .ref x) h'))
theorem av_iinc (K : av_K p s m args meth c D cl ca A cc nL own Ts) {i : Nat} {n : Int} {x v : Int32} (hd : decode cc pc = .ok (.iinc i n, 3)) (hx : L[i]? = some (some (.int x))) (hv : x + Int32.ofInt n = v) (hn : i < nL) (hl : ax_s1 L i (.int v) = L') (k : av_V p l e R s m args below meth c D cl A ad ca nL Q cells slots (pc + 3) L' st w) : av_V p l e R s m args below meth c D cl A ad ca nL Q cells slots pc L st w := fun H locs ls hP hD hS hL => by
  have h0 : lv_has ls nL ((i, .int x) :: ax_ll ad L) := ⟨hL.1, hL.2.1, fun q hq => by
    rcases List.mem_cons.mp hq with h | h
    · subst h; exact hL.2.2 i _ hx
    · exact hL.has.2.2 q h⟩
  refine lv_iinc (k := 0) K.1 K.2.1 hd h0 rfl hv hn rfl (fun ls' h' => k H locs ls' hP hD hS (hl ▸ ax_L.s1 (v := .int v) ⟨h'.1, h'.2.1, fun q hq => h'.2.2 q ?_⟩))
  rcases List.mem_cons.mp hq with h | h
  · subst h; exact List.mem_cons_self
  · refine List.mem_cons_of_mem _ (List.mem_filter.mpr ⟨List.mem_cons_of_mem _ (List.mem_filter.mp h).1, (List.mem_filter.mp h).2⟩)
theorem av_iadd (K : av_K p s m args meth c D cl ca A cc nL own Ts) {x y : Int32} (hd : decode cc pc = .ok (.iadd, 1)) (k : av_V p l e R s m args below meth c D cl A ad ca nL Q cells slots (pc + 1) L (.int (x + y) :: st) w) : av_V p l e R s m args below meth c D cl A ad ca nL Q cells slots pc L (.int y :: .int x :: st) w := fun H locs ls hP hD hS hL => lv_iadd K.1 K.2.1 hd (k H locs ls hP hD hS hL)
theorem av_isub (K : av_K p s m args meth c D cl ca A cc nL own Ts) {x y : Int32} (hd : decode cc pc = .ok (.isub, 1)) (k : av_V p l e R s m args below meth c D cl A ad ca nL Q cells slots (pc + 1) L (.int (x - y) :: st) w) : av_V p l e R s m args below meth c D cl A ad ca nL Q cells slots pc L (.int y :: .int x :: st) w := fun H locs ls hP hD hS hL => lv_isub K.1 K.2.1 hd (k H locs ls hP hD hS hL)
theorem av_imul (K : av_K p s m args meth c D cl ca A cc nL own Ts) {x y : Int32} (hd : decode cc pc = .ok (.imul, 1)) (k : av_V p l e R s m args below meth c D cl A ad ca nL Q cells slots (pc + 1) L (.int (x * y) :: st) w) : av_V p l e R s m args below meth c D cl A ad ca nL Q cells slots pc L (.int y :: .int x :: st) w := fun H locs ls hP hD hS hL => lv_imul K.1 K.2.1 hd (k H locs ls hP hD hS hL)
theorem av_iand (K : av_K p s m args meth c D cl ca A cc nL own Ts) {x y : Int32} (hd : decode cc pc = .ok (.iand, 1)) (k : av_V p l e R s m args below meth c D cl A ad ca nL Q cells slots (pc + 1) L (.int (x &&& y) :: st) w) : av_V p l e R s m args below meth c D cl A ad ca nL Q cells slots pc L (.int y :: .int x :: st) w := fun H locs ls hP hD hS hL => lv_iand K.1 K.2.1 hd (k H locs ls hP hD hS hL)
theorem av_ior (K : av_K p s m args meth c D cl ca A cc nL own Ts) {x y : Int32} (hd : decode cc pc = .ok (.ior, 1)) (k : av_V p l e R s m args below meth c D cl A ad ca nL Q cells slots (pc + 1) L (.int (x ||| y) :: st) w) : av_V p l e R s m args below meth c D cl A ad ca nL Q cells slots pc L (.int y :: .int x :: st) w := fun H locs ls hP hD hS hL => lv_ior K.1 K.2.1 hd (k H locs ls hP hD hS hL)
theorem av_ixor (K : av_K p s m args meth c D cl ca A cc nL own Ts) {x y : Int32} (hd : decode cc pc = .ok (.ixor, 1)) (k : av_V p l e R s m args below meth c D cl A ad ca nL Q cells slots (pc + 1) L (.int (x ^^^ y) :: st) w) : av_V p l e R s m args below meth c D cl A ad ca nL Q cells slots pc L (.int y :: .int x :: st) w := fun H locs ls hP hD hS hL => lv_ixor K.1 K.2.1 hd (k H locs ls hP hD hS hL)
theorem av_ishl (K : av_K p s m args meth c D cl ca A cc nL own Ts) {x y : Int32} (hd : decode cc pc = .ok (.ishl, 1)) (k : av_V p l e R s m args below meth c D cl A ad ca nL Q cells slots (pc + 1) L (.int (x <<< (y &&& 31)) :: st) w) : av_V p l e R s m args below meth c D cl A ad ca nL Q cells slots pc L (.int y :: .int x :: st) w := fun H locs ls hP hD hS hL => lv_ishl K.1 K.2.1 hd (k H locs ls hP hD hS hL)
theorem av_ishr (K : av_K p s m args meth c D cl ca A cc nL own Ts) {x y : Int32} (hd : decode cc pc = .ok (.ishr, 1)) (k : av_V p l e R s m args below meth c D cl A ad ca nL Q cells slots (pc + 1) L (.int (x >>> (y &&& 31)) :: st) w) : av_V p l e R s m args below meth c D cl A ad ca nL Q cells slots pc L (.int y :: .int x :: st) w := fun H locs ls hP hD hS hL => lv_ishr K.1 K.2.1 hd (k H locs ls hP hD hS hL)
theorem av_idiv (K : av_K p s m args meth c D cl ca A cc nL own Ts) {x y : Int32} (hd : decode cc pc = .ok (.idiv, 1)) (hne : ¬ y = 0) (k : av_V p l e R s m args below meth c D cl A ad ca nL Q cells slots (pc + 1) L (.int (x / y) :: st) w) : av_V p l e R s m args below meth c D cl A ad ca nL Q cells slots pc L (.int y :: .int x :: st) w := fun H locs ls hP hD hS hL => lv_idiv K.1 K.2.1 hd hne (k H locs ls hP hD hS hL)
theorem av_irem (K : av_K p s m args meth c D cl ca A cc nL own Ts) {x y : Int32} (hd : decode cc pc = .ok (.irem, 1)) (hne : ¬ y = 0) (k : av_V p l e R s m args below meth c D cl A ad ca nL Q cells slots (pc + 1) L (.int (x - x / y * y) :: st) w) : av_V p l e R s m args below meth c D cl A ad ca nL Q cells slots pc L (.int y :: .int x :: st) w := fun H locs ls hP hD hS hL => lv_irem K.1 K.2.1 hd hne (k H locs ls hP hD hS hL)
theorem av_ladd (K : av_K p s m args meth c D cl ca A cc nL own Ts) {x y : Int64} (hd : decode cc pc = .ok (.ladd, 1)) (k : av_V p l e R s m args below meth c D cl A ad ca nL Q cells slots (pc + 1) L (.long (x + y) :: st) w) : av_V p l e R s m args below meth c D cl A ad ca nL Q cells slots pc L (.long y :: .long x :: st) w := fun H locs ls hP hD hS hL => lv_ladd K.1 K.2.1 hd (k H locs ls hP hD hS hL)
theorem av_lsub (K : av_K p s m args meth c D cl ca A cc nL own Ts) {x y : Int64} (hd : decode cc pc = .ok (.lsub, 1)) (k : av_V p l e R s m args below meth c D cl A ad ca nL Q cells slots (pc + 1) L (.long (x - y) :: st) w) : av_V p l e R s m args below meth c D cl A ad ca nL Q cells slots pc L (.long y :: .long x :: st) w := fun H locs ls hP hD hS hL => lv_lsub K.1 K.2.1 hd (k H locs ls hP hD hS hL)
theorem av_lmul (K : av_K p s m args meth c D cl ca A cc nL own Ts) {x y : Int64} (hd : decode cc pc = .ok (.lmul, 1)) (k : av_V p l e R s m args below meth c D cl A ad ca nL Q cells slots (pc + 1) L (.long (x * y) :: st) w) : av_V p l e R s m args below meth c D cl A ad ca nL Q cells slots pc L (.long y :: .long x :: st) w := fun H locs ls hP hD hS hL => lv_lmul K.1 K.2.1 hd (k H locs ls hP hD hS hL)
theorem av_land (K : av_K p s m args meth c D cl ca A cc nL own Ts) {x y : Int64} (hd : decode cc pc = .ok (.land, 1)) (k : av_V p l e R s m args below meth c D cl A ad ca nL Q cells slots (pc + 1) L (.long (x &&& y) :: st) w) : av_V p l e R s m args below meth c D cl A ad ca nL Q cells slots pc L (.long y :: .long x :: st) w := fun H locs ls hP hD hS hL => lv_land K.1 K.2.1 hd (k H locs ls hP hD hS hL)
theorem av_lor (K : av_K p s m args meth c D cl ca A cc nL own Ts) {x y : Int64} (hd : decode cc pc = .ok (.lor, 1)) (k : av_V p l e R s m args below meth c D cl A ad ca nL Q cells slots (pc + 1) L (.long (x ||| y) :: st) w) : av_V p l e R s m args below meth c D cl A ad ca nL Q cells slots pc L (.long y :: .long x :: st) w := fun H locs ls hP hD hS hL => lv_lor K.1 K.2.1 hd (k H locs ls hP hD hS hL)
theorem av_lxor (K : av_K p s m args meth c D cl ca A cc nL own Ts) {x y : Int64} (hd : decode cc pc = .ok (.lxor, 1)) (k : av_V p l e R s m args below meth c D cl A ad ca nL Q cells slots (pc + 1) L (.long (x ^^^ y) :: st) w) : av_V p l e R s m args below meth c D cl A ad ca nL Q cells slots pc L (.long y :: .long x :: st) w := fun H locs ls hP hD hS hL => lv_lxor K.1 K.2.1 hd (k H locs ls hP hD hS hL)
theorem av_lneg (K : av_K p s m args meth c D cl ca A cc nL own Ts) {x : Int64} (hd : decode cc pc = .ok (.lneg, 1)) (k : av_V p l e R s m args below meth c D cl A ad ca nL Q cells slots (pc + 1) L (.long (-x) :: st) w) : av_V p l e R s m args below meth c D cl A ad ca nL Q cells slots pc L (.long x :: st) w := fun H locs ls hP hD hS hL => lv_lneg K.1 K.2.1 hd (k H locs ls hP hD hS hL)
theorem av_i2l (K : av_K p s m args meth c D cl ca A cc nL own Ts) {x : Int32} (hd : decode cc pc = .ok (.i2l, 1)) (k : av_V p l e R s m args below meth c D cl A ad ca nL Q cells slots (pc + 1) L (.long x.toInt64 :: st) w) : av_V p l e R s m args below meth c D cl A ad ca nL Q cells slots pc L (.int x :: st) w := fun H locs ls hP hD hS hL => lv_i2l K.1 K.2.1 hd rfl (k H locs ls hP hD hS hL)
theorem av_l2i (K : av_K p s m args meth c D cl ca A cc nL own Ts) {x : Int64} (hd : decode cc pc = .ok (.l2i, 1)) (k : av_V p l e R s m args below meth c D cl A ad ca nL Q cells slots (pc + 1) L (.int x.toInt32 :: st) w) : av_V p l e R s m args below meth c D cl A ad ca nL Q cells slots pc L (.long x :: st) w := fun H locs ls hP hD hS hL => lv_l2i K.1 K.2.1 hd rfl (k H locs ls hP hD hS hL)
theorem av_lushr (K : av_K p s m args meth c D cl ca A cc nL own Ts) {x : Int64} {y : Int32} (hd : decode cc pc = .ok (.lushr, 1)) (k : av_V p l e R s m args below meth c D cl A ad ca nL Q cells slots (pc + 1) L (.long (x.toUInt64 >>> (y.toInt64.toUInt64 &&& Int64.toUInt64 63)).toInt64 :: st) w) : av_V p l e R s m args below meth c D cl A ad ca nL Q cells slots pc L (.int y :: .long x :: st) w := fun H locs ls hP hD hS hL => lv_lushr K.1 K.2.1 hd rfl (k H locs ls hP hD hS hL)
theorem av_lshl (K : av_K p s m args meth c D cl ca A cc nL own Ts) {x : Int64} {y : Int32} (hd : decode cc pc = .ok (.lshl, 1)) (k : av_V p l e R s m args below meth c D cl A ad ca nL Q cells slots (pc + 1) L (.long (x <<< (y.toInt64 &&& 63)) :: st) w) : av_V p l e R s m args below meth c D cl A ad ca nL Q cells slots pc L (.int y :: .long x :: st) w := fun H locs ls hP hD hS hL => lv_lshl K.1 K.2.1 hd rfl (k H locs ls hP hD hS hL)
theorem av_lshr (K : av_K p s m args meth c D cl ca A cc nL own Ts) {x : Int64} {y : Int32} (hd : decode cc pc = .ok (.lshr, 1)) (k : av_V p l e R s m args below meth c D cl A ad ca nL Q cells slots (pc + 1) L (.long (x >>> (y.toInt64 &&& 63)) :: st) w) : av_V p l e R s m args below meth c D cl A ad ca nL Q cells slots pc L (.int y :: .long x :: st) w := fun H locs ls hP hD hS hL => lv_lshr K.1 K.2.1 hd rfl (k H locs ls hP hD hS hL)
theorem av_lcmp (K : av_K p s m args meth c D cl ca A cc nL own Ts) {x y : Int64} (hd : decode cc pc = .ok (.lcmp, 1)) (k : av_V p l e R s m args below meth c D cl A ad ca nL Q cells slots (pc + 1) L (.int (lg_cmp x y) :: st) w) : av_V p l e R s m args below meth c D cl A ad ca nL Q cells slots pc L (.long y :: .long x :: st) w := fun H locs ls hP hD hS hL => W.lcmp K.1 K.2.1 hd (k H locs ls hP hD hS hL)
theorem av_dup (K : av_K p s m args meth c D cl ca A cc nL own Ts) {va : Value} (hd : decode cc pc = .ok (.dup, 1)) (hva : va.category = 1) (k : av_V p l e R s m args below meth c D cl A ad ca nL Q cells slots (pc + 1) L (va :: va :: st) w) : av_V p l e R s m args below meth c D cl A ad ca nL Q cells slots pc L (va :: st) w := fun H locs ls hP hD hS hL => lv_dup K.1 K.2.1 hd (by rw [ax_v_cat]; exact hva) (k H locs ls hP hD hS hL)
theorem av_dup2 (K : av_K p s m args meth c D cl ca A cc nL own Ts) {va vb : Value} (hd : decode cc pc = .ok (.dup2, 1)) (hva : va.category = 1) (hvb : vb.category = 1) (k : av_V p l e R s m args below meth c D cl A ad ca nL Q cells slots (pc + 1) L (va :: vb :: va :: vb :: st) w) : av_V p l e R s m args below meth c D cl A ad ca nL Q cells slots pc L (va :: vb :: st) w := fun H locs ls hP hD hS hL => lv_dup2_11 K.1 K.2.1 hd (by rw [ax_v_cat]; exact hva) (by rw [ax_v_cat]; exact hvb) (k H locs ls hP hD hS hL)
theorem av_dup_x1 (K : av_K p s m args meth c D cl ca A cc nL own Ts) {va vb : Value} (hd : decode cc pc = .ok (.dup_x1, 1)) (hva : va.category = 1) (hvb : vb.category = 1) (k : av_V p l e R s m args below meth c D cl A ad ca nL Q cells slots (pc + 1) L (va :: vb :: va :: st) w) : av_V p l e R s m args below meth c D cl A ad ca nL Q cells slots pc L (va :: vb :: st) w := fun H locs ls hP hD hS hL => lv_dup_x1 K.1 K.2.1 hd (by rw [ax_v_cat]; exact hva) (by rw [ax_v_cat]; exact hvb) (k H locs ls hP hD hS hL)
theorem av_pop (K : av_K p s m args meth c D cl ca A cc nL own Ts) {va : Value} (hd : decode cc pc = .ok (.pop, 1)) (hva : va.category = 1) (k : av_V p l e R s m args below meth c D cl A ad ca nL Q cells slots (pc + 1) L (st) w) : av_V p l e R s m args below meth c D cl A ad ca nL Q cells slots pc L (va :: st) w := fun H locs ls hP hD hS hL => lv_pop K.1 K.2.1 hd (by rw [ax_v_cat]; exact hva) (k H locs ls hP hD hS hL)
theorem av_if_eq (K : av_K p s m args meth c D cl ca A cc nL own Ts) {x : Int32} {off : Int} {tgt : Nat} (hd : decode cc pc = .ok (.ifCond .eq off, 3)) (ht : (pc : Int) + off = (tgt : Int)) (kt : x = 0 → av_V p l e R s m args below meth c D cl A ad ca nL Q cells slots tgt L st w) (kf : ¬ x = 0 → av_V p l e R s m args below meth c D cl A ad ca nL Q cells slots (pc + 3) L st w) : av_V p l e R s m args below meth c D cl A ad ca nL Q cells slots pc L (.int x :: st) w := fun H locs ls hP hD hS hL => lv_if_eq K.1 K.2.1 hd ht (fun h => kt h H locs ls hP hD hS hL) (fun h => kf h H locs ls hP hD hS hL)
theorem av_icmp_eq (K : av_K p s m args meth c D cl ca A cc nL own Ts) {x y : Int32} {off : Int} {tgt : Nat} (hd : decode cc pc = .ok (.if_icmp .eq off, 3)) (ht : (pc : Int) + off = (tgt : Int)) (kt : x = y → av_V p l e R s m args below meth c D cl A ad ca nL Q cells slots tgt L st w) (kf : ¬ x = y → av_V p l e R s m args below meth c D cl A ad ca nL Q cells slots (pc + 3) L st w) : av_V p l e R s m args below meth c D cl A ad ca nL Q cells slots pc L (.int y :: .int x :: st) w := fun H locs ls hP hD hS hL => lv_icmp_eq K.1 K.2.1 hd ht (fun h => kt h H locs ls hP hD hS hL) (fun h => kf h H locs ls hP hD hS hL)
theorem av_if_ne (K : av_K p s m args meth c D cl ca A cc nL own Ts) {x : Int32} {off : Int} {tgt : Nat} (hd : decode cc pc = .ok (.ifCond .ne off, 3)) (ht : (pc : Int) + off = (tgt : Int)) (kt : ¬ x = 0 → av_V p l e R s m args below meth c D cl A ad ca nL Q cells slots tgt L st w) (kf : x = 0 → av_V p l e R s m args below meth c D cl A ad ca nL Q cells slots (pc + 3) L st w) : av_V p l e R s m args below meth c D cl A ad ca nL Q cells slots pc L (.int x :: st) w := fun H locs ls hP hD hS hL => lv_if_ne K.1 K.2.1 hd ht (fun h => kt h H locs ls hP hD hS hL) (fun h => kf h H locs ls hP hD hS hL)
theorem av_icmp_ne (K : av_K p s m args meth c D cl ca A cc nL own Ts) {x y : Int32} {off : Int} {tgt : Nat} (hd : decode cc pc = .ok (.if_icmp .ne off, 3)) (ht : (pc : Int) + off = (tgt : Int)) (kt : ¬ x = y → av_V p l e R s m args below meth c D cl A ad ca nL Q cells slots tgt L st w) (kf : x = y → av_V p l e R s m args below meth c D cl A ad ca nL Q cells slots (pc + 3) L st w) : av_V p l e R s m args below meth c D cl A ad ca nL Q cells slots pc L (.int y :: .int x :: st) w := fun H locs ls hP hD hS hL => lv_icmp_ne K.1 K.2.1 hd ht (fun h => kt h H locs ls hP hD hS hL) (fun h => kf h H locs ls hP hD hS hL)
theorem av_if_lt (K : av_K p s m args meth c D cl ca A cc nL own Ts) {x : Int32} {off : Int} {tgt : Nat} (hd : decode cc pc = .ok (.ifCond .lt off, 3)) (ht : (pc : Int) + off = (tgt : Int)) (kt : x < 0 → av_V p l e R s m args below meth c D cl A ad ca nL Q cells slots tgt L st w) (kf : ¬ x < 0 → av_V p l e R s m args below meth c D cl A ad ca nL Q cells slots (pc + 3) L st w) : av_V p l e R s m args below meth c D cl A ad ca nL Q cells slots pc L (.int x :: st) w := fun H locs ls hP hD hS hL => lv_if_lt K.1 K.2.1 hd ht (fun h => kt h H locs ls hP hD hS hL) (fun h => kf h H locs ls hP hD hS hL)
theorem av_icmp_lt (K : av_K p s m args meth c D cl ca A cc nL own Ts) {x y : Int32} {off : Int} {tgt : Nat} (hd : decode cc pc = .ok (.if_icmp .lt off, 3)) (ht : (pc : Int) + off = (tgt : Int)) (kt : x < y → av_V p l e R s m args below meth c D cl A ad ca nL Q cells slots tgt L st w) (kf : ¬ x < y → av_V p l e R s m args below meth c D cl A ad ca nL Q cells slots (pc + 3) L st w) : av_V p l e R s m args below meth c D cl A ad ca nL Q cells slots pc L (.int y :: .int x :: st) w := fun H locs ls hP hD hS hL => lv_icmp_lt K.1 K.2.1 hd ht (fun h => kt h H locs ls hP hD hS hL) (fun h => kf h H locs ls hP hD hS hL)
theorem av_if_ge (K : av_K p s m args meth c D cl ca A cc nL own Ts) {x : Int32} {off : Int} {tgt : Nat} (hd : decode cc pc = .ok (.ifCond .ge off, 3)) (ht : (pc : Int) + off = (tgt : Int)) (kt : 0 ≤ x → av_V p l e R s m args below meth c D cl A ad ca nL Q cells slots tgt L st w) (kf : ¬ 0 ≤ x → av_V p l e R s m args below meth c D cl A ad ca nL Q cells slots (pc + 3) L st w) : av_V p l e R s m args below meth c D cl A ad ca nL Q cells slots pc L (.int x :: st) w := fun H locs ls hP hD hS hL => lv_if_ge K.1 K.2.1 hd ht (fun h => kt h H locs ls hP hD hS hL) (fun h => kf h H locs ls hP hD hS hL)
theorem av_icmp_ge (K : av_K p s m args meth c D cl ca A cc nL own Ts) {x y : Int32} {off : Int} {tgt : Nat} (hd : decode cc pc = .ok (.if_icmp .ge off, 3)) (ht : (pc : Int) + off = (tgt : Int)) (kt : y ≤ x → av_V p l e R s m args below meth c D cl A ad ca nL Q cells slots tgt L st w) (kf : ¬ y ≤ x → av_V p l e R s m args below meth c D cl A ad ca nL Q cells slots (pc + 3) L st w) : av_V p l e R s m args below meth c D cl A ad ca nL Q cells slots pc L (.int y :: .int x :: st) w := fun H locs ls hP hD hS hL => lv_icmp_ge K.1 K.2.1 hd ht (fun h => kt h H locs ls hP hD hS hL) (fun h => kf h H locs ls hP hD hS hL)
theorem av_if_gt (K : av_K p s m args meth c D cl ca A cc nL own Ts) {x : Int32} {off : Int} {tgt : Nat} (hd : decode cc pc = .ok (.ifCond .gt off, 3)) (ht : (pc : Int) + off = (tgt : Int)) (kt : 0 < x → av_V p l e R s m args below meth c D cl A ad ca nL Q cells slots tgt L st w) (kf : ¬ 0 < x → av_V p l e R s m args below meth c D cl A ad ca nL Q cells slots (pc + 3) L st w) : av_V p l e R s m args below meth c D cl A ad ca nL Q cells slots pc L (.int x :: st) w := fun H locs ls hP hD hS hL => lv_if_gt K.1 K.2.1 hd ht (fun h => kt h H locs ls hP hD hS hL) (fun h => kf h H locs ls hP hD hS hL)
theorem av_icmp_gt (K : av_K p s m args meth c D cl ca A cc nL own Ts) {x y : Int32} {off : Int} {tgt : Nat} (hd : decode cc pc = .ok (.if_icmp .gt off, 3)) (ht : (pc : Int) + off = (tgt : Int)) (kt : y < x → av_V p l e R s m args below meth c D cl A ad ca nL Q cells slots tgt L st w) (kf : ¬ y < x → av_V p l e R s m args below meth c D cl A ad ca nL Q cells slots (pc + 3) L st w) : av_V p l e R s m args below meth c D cl A ad ca nL Q cells slots pc L (.int y :: .int x :: st) w := fun H locs ls hP hD hS hL => lv_icmp_gt K.1 K.2.1 hd ht (fun h => kt h H locs ls hP hD hS hL) (fun h => kf h H locs ls hP hD hS hL)
theorem av_if_le (K : av_K p s m args meth c D cl ca A cc nL own Ts) {x : Int32} {off : Int} {tgt : Nat} (hd : decode cc pc = .ok (.ifCond .le off, 3)) (ht : (pc : Int) + off = (tgt : Int)) (kt : x ≤ 0 → av_V p l e R s m args below meth c D cl A ad ca nL Q cells slots tgt L st w) (kf : ¬ x ≤ 0 → av_V p l e R s m args below meth c D cl A ad ca nL Q cells slots (pc + 3) L st w) : av_V p l e R s m args below meth c D cl A ad ca nL Q cells slots pc L (.int x :: st) w := fun H locs ls hP hD hS hL => lv_if_le K.1 K.2.1 hd ht (fun h => kt h H locs ls hP hD hS hL) (fun h => kf h H locs ls hP hD hS hL)
theorem av_icmp_le (K : av_K p s m args meth c D cl ca A cc nL own Ts) {x y : Int32} {off : Int} {tgt : Nat} (hd : decode cc pc = .ok (.if_icmp .le off, 3)) (ht : (pc : Int) + off = (tgt : Int)) (kt : x ≤ y → av_V p l e R s m args below meth c D cl A ad ca nL Q cells slots tgt L st w) (kf : ¬ x ≤ y → av_V p l e R s m args below meth c D cl A ad ca nL Q cells slots (pc + 3) L st w) : av_V p l e R s m args below meth c D cl A ad ca nL Q cells slots pc L (.int y :: .int x :: st) w := fun H locs ls hP hD hS hL => lv_icmp_le K.1 K.2.1 hd ht (fun h => kt h H locs ls hP hD hS hL) (fun h => kf h H locs ls hP hD hS hL)
theorem av_goto (K : av_K p s m args meth c D cl ca A cc nL own Ts) {off : Int} {tgt : Nat} (hd : decode cc pc = .ok (.goto off, 3)) (ht : (pc : Int) + off = (tgt : Int)) (k : av_V p l e R s m args below meth c D cl A ad ca nL Q cells slots tgt L st w) : av_V p l e R s m args below meth c D cl A ad ca nL Q cells slots pc L st w := fun H locs ls hP hD hS hL => lv_goto K.1 K.2.1 hd ht (k H locs ls hP hD hS hL)
theorem av_ldc2 (K : av_K p s m args meth c D cl ca A cc nL own Ts) {index : Nat} {v : Int64} (hc : Cond.constantLong own index v ∈ Ts) (hd : decode cc pc = .ok (.ldc2_w index, 3)) (k : av_V p l e R s m args below meth c D cl A ad ca nL Q cells slots (pc + 3) L (.long v :: st) w) : av_V p l e R s m args below meth c D cl A ad ca nL Q cells slots pc L st w := fun H locs ls hP hD hS hL => lv_ldc2 K.1 K.2.1 K.2.2.2.1 (K.2.2.2.2.1 _ hc) hd (k H locs ls hP hD hS hL)
theorem av_ldc (K : av_K p s m args meth c D cl ca A cc nL own Ts) {index : Nat} {v : Int32} (hc : Cond.constant own index v ∈ Ts) (hd : decode cc pc = .ok (.ldc index, 2)) (k : av_V p l e R s m args below meth c D cl A ad ca nL Q cells slots (pc + 2) L (.int v :: st) w) : av_V p l e R s m args below meth c D cl A ad ca nL Q cells slots pc L st w := fun H locs ls hP hD hS hL => lv_ldc K.1 K.2.1 K.2.2.2.1 (K.2.2.2.2.1 _ hc) hd (k H locs ls hP hD hS hL)
theorem av_eq {pc' : Nat} {st' : List Value} (h1 : pc = pc') (h2 : L = L') (h3 : st = st') (h4 : w = w') (k : av_V p l e R s m args below meth c D cl A ad ca nL Q cells slots pc' L' st' w') : av_V p l e R s m args below meth c D cl A ad ca nL Q cells slots pc L st w := by subst h1; subst h2; subst h3; subst h4; exact k
/-- what an entry of a class's pool says of a field: class number ci, slot kf -/
def av_F (own : String) (Ts : List Cond) (cl : List vw_C) (index ci kf : Nat) : Prop := ∃ (C : String) (T : u_T) (N : Nat), cl[ci]? = some (C, T, N) ∧ kf < N ∧ (∀ w ∈ u_ws C T N, w ∈ Ts) ∧ Cond.fieldLink own index (T kf).1 (T kf).2.1 (T kf).2.2.1 ∈ Ts
def av_FN (own host : String) (Ts Ns : List Cond) (cl : List vw_C) (index ci kf : Nat) : Prop := ∃ (C : String) (T : u_T) (N : Nat), cl[ci]? = some (C, T, N) ∧ kf < N ∧ (∀ w ∈ u_ws C T N, w ∈ Ts) ∧ Cond.fieldLinkNest own index (T kf).1 (T kf).2.1 (T kf).2.2.1 host ∈ Ns
def av_FP (own : String) (Ts : List Cond) (cl : List vw_C) (index ci kf : Nat) (ty : FieldType) : Prop := ∃ (C : String) (T : u_T) (N : Nat) (ty0 : Nat → FieldType), cl[ci]? = some (C, T, N) ∧ kf < N ∧ (∀ w ∈ u_ws C T N, w ∈ Ts) ∧ Cond.fieldLink own index (T kf).1 (T kf).2.1 (T kf).2.2.1 ∈ Ts ∧
  (∀ k, k < N → parseFieldDescriptor (T k).2.2.1 = some (ty0 k)) ∧ (∀ a, a < N → ∀ b, b < N → a ≠ b → (T a).2.1 ≠ (T b).2.1) ∧ (T kf).2.2.2 = false ∧ parseFieldDescriptor (T kf).2.2.1 = some ty
theorem av_getf (K : av_K p s m args meth c D cl ca A cc nL own Ts) {index ci kf q : Nat} (f : av_F own Ts cl index ci kf) {fs : List Value} {v : Value} (hd : decode cc pc = .ok (.getfield index, 3)) (he : w[q]? = some (.inr (ci, fs))) (hv : fs[kf]? = some v) (k : av_V p l e R s m args below meth c D cl A ad ca nL Q cells slots (pc + 3) L (v :: st) w) : av_V p l e R s m args below meth c D cl A ad ca nL Q cells slots pc L (.ref q :: st) w := fun H locs ls hP hD hS hL => by
  obtain ⟨C, T, N, hc, hk, hin, hl⟩ := f
  exact va_get (D := D) (ci := ci) (v := ax_v ad v) (C := C) (T := T) (N := N) K.1 K.2.1 K.2.2.2.2.1 hin K.2.2.2.1 K.2.2.2.2.2.1 hP q (ax_W_at he) hc kf hk (K.2.2.2.2.1 _ hl) (fun _ h9 => h9) (by rw [List.getElem?_map, hv]; rfl) hd (k H locs ls hP hD hS hL)
theorem av_getfN (K : av_K p s m args meth c D cl ca A cc nL own Ts) {Ns : List Cond} (hN : ∀ w ∈ Ns, va_Nw w s) {index ci kf q : Nat} {host : String} (f : av_FN own host Ts Ns cl index ci kf) {fs : List Value} {v : Value} (hd : decode cc pc = .ok (.getfield index, 3)) (he : w[q]? = some (.inr (ci, fs))) (hv : fs[kf]? = some v) (k : av_V p l e R s m args below meth c D cl A ad ca nL Q cells slots (pc + 3) L (v :: st) w) : av_V p l e R s m args below meth c D cl A ad ca nL Q cells slots pc L (.ref q :: st) w := fun H locs ls hP hD hS hL => by
  obtain ⟨C, T, N, hc, hk, hin, hl⟩ := f
  exact va_getN (D := D) (ci := ci) (v := ax_v ad v) (C := C) (T := T) (N := N) K.1 K.2.1 K.2.2.2.2.1 hin K.2.2.2.1 K.2.2.2.2.2.1 hP q (ax_W_at he) hc kf hk (va_Nw.use rfl (hN _ hl)) (fun _ h9 => h9) (by rw [List.getElem?_map, hv]; rfl) hd (k H locs ls hP hD hS hL)
theorem av_putf (K : av_K p s m args meth c D cl ca A cc nL own Ts) {index ci kf q : Nat} {ty : FieldType} (f : av_FP own Ts cl index ci kf ty) {fs : List Value} {x : Int32} (hd : decode cc pc = .ok (.putfield index, 3)) (he : w[q]? = some (.inr (ci, fs))) (hn : narrow ty (.int x) = .int x) (hf : fits ty (.int x) = true) (hlen : kf < fs.length) (hw : w.set q (.inr (ci, fs.set kf (.int x))) = w') (k : av_V p l e R s m args below meth c D cl A ad ca nL Q cells slots (pc + 3) L st w') : av_V p l e R s m args below meth c D cl A ad ca nL Q cells slots pc L (.int x :: .ref q :: st) w := fun H locs ls hP hD hS hL => by
  obtain ⟨C, T, N, ty0, hc, hk, hin, hl, hty, hnm, hfin, hp⟩ := f
  have e1 : (ax_W ad ca w).set q (ad q, .inr (ci, (fs.map (ax_v ad)).set kf (.int x))) = ax_W ad ca w' := by
    rw [← hw, ← ax_W_set]
    show _ = (ax_W ad ca w).set q (ad q, .inr (ci, (fs.set kf (.int x)).map (ax_v ad)))
    rw [List.map_set]
    rfl
  refine va_put (D := D) (ci := ci) (v := .int x) (ty := ty) (C := C) (T := T) (N := N) K.1 K.2.1 K.2.2.2.2.1 hin ty0 hty hnm K.2.2.2.1 K.2.2.2.2.2.1 hP hD hS q (ax_W_at he) hc kf hk (K.2.2.2.2.1 _ hl) (fun _ h9 => h9) hfin hp hn hf (by rw [List.length_map]; exact hlen) hd (fun H1 locs1 hP1 hD1 hS1 => ?_)
  rw [e1] at hP1 hD1
  exact k H1 locs1 ls hP1 hD1 hS1 hL
theorem av_iald (K : av_K p s m args meth c D cl ca A cc nL own Ts) {q n : Nat} {f : Nat → Int32} {i : Int32} (hd : decode cc pc = .ok (.iaload, 1)) (he : w[q]? = some (.inl (0, n, .inl f))) (hin : vp_in i n) (k : av_V p l e R s m args below meth c D cl A ad ca nL Q cells slots (pc + 1) L (.int (f i.toNatClampNeg) :: st) w) : av_V p l e R s m args below meth c D cl A ad ca nL Q cells slots pc L (.int i :: .ref q :: st) w := fun H locs ls hP hD hS hL => va_iald K.1 K.2.1 K.2.2.2.2.2.1 hP q 0 (ax_W_at he) rfl hin hd (k H locs ls hP hD hS hL)
theorem av_lald (K : av_K p s m args meth c D cl ca A cc nL own Ts) {q n : Nat} {f : Nat → Int64} {i : Int32} (hd : decode cc pc = .ok (.laload, 1)) (he : w[q]? = some (.inl (1, n, .inr (.inl f)))) (hin : vp_in i n) (k : av_V p l e R s m args below meth c D cl A ad ca nL Q cells slots (pc + 1) L (.long (f i.toNatClampNeg) :: st) w) : av_V p l e R s m args below meth c D cl A ad ca nL Q cells slots pc L (.int i :: .ref q :: st) w := fun H locs ls hP hD hS hL => va_lald K.1 K.2.1 K.2.2.2.2.2.1 hP q 1 (ax_W_at he) rfl hin hd (k H locs ls hP hD hS hL)
theorem av_zald (K : av_K p s m args meth c D cl ca A cc nL own Ts) {q n : Nat} {f : Nat → Int32} {i : Int32} (hd : decode cc pc = .ok (.baload, 1)) (he : w[q]? = some (.inl (2, n, .inl f))) (hin : vp_in i n) (k : av_V p l e R s m args below meth c D cl A ad ca nL Q cells slots (pc + 1) L (.int (f i.toNatClampNeg) :: st) w) : av_V p l e R s m args below meth c D cl A ad ca nL Q cells slots pc L (.int i :: .ref q :: st) w := fun H locs ls hP hD hS hL => va_zald K.1 K.2.1 K.2.2.2.2.2.1 hP q 2 (ax_W_at he) rfl hin hd (k H locs ls hP hD hS hL)
theorem av_iast (K : av_K p s m args meth c D cl ca A cc nL own Ts) {q n : Nat} {f : Nat → Int32} {i : Int32} {x : Int32} (hd : decode cc pc = .ok (.iastore, 1)) (he : w[q]? = some (.inl (0, n, .inl f))) (hin : vp_in i n) (hw : w.set q (.inl (0, n, .inl (upd f i.toNatClampNeg x))) = w') (k : av_V p l e R s m args below meth c D cl A ad ca nL Q cells slots (pc + 1) L st w') : av_V p l e R s m args below meth c D cl A ad ca nL Q cells slots pc L (.int x :: .int i :: .ref q :: st) w := fun H locs ls hP hD hS hL => by
  have e1 : (ax_W ad ca w).set q (ad q, .inl (ca 0, n, .inl (upd f i.toNatClampNeg x))) = ax_W ad ca w' := by
    rw [← hw, ← ax_W_set]; rfl
  refine va_iast K.1 K.2.1 K.2.2.2.2.2.1 hP hD hS q 0 (ax_W_at he) rfl hin hd (fun H1 locs1 hP1 hD1 hS1 => ?_)
  rw [e1] at hP1 hD1
  exact k H1 locs1 ls hP1 hD1 hS1 hL
theorem av_last (K : av_K p s m args meth c D cl ca A cc nL own Ts) {q n : Nat} {f : Nat → Int64} {i : Int32} {x : Int64} (hd : decode cc pc = .ok (.lastore, 1)) (he : w[q]? = some (.inl (1, n, .inr (.inl f)))) (hin : vp_in i n) (hw : w.set q (.inl (1, n, .inr (.inl (vp_updL f i.toNatClampNeg x)))) = w') (k : av_V p l e R s m args below meth c D cl A ad ca nL Q cells slots (pc + 1) L st w') : av_V p l e R s m args below meth c D cl A ad ca nL Q cells slots pc L (.long x :: .int i :: .ref q :: st) w := fun H locs ls hP hD hS hL => by
  have e1 : (ax_W ad ca w).set q (ad q, .inl (ca 1, n, .inr (.inl (vp_updL f i.toNatClampNeg x)))) = ax_W ad ca w' := by
    rw [← hw, ← ax_W_set]; rfl
  refine va_last K.1 K.2.1 K.2.2.2.2.2.1 hP hD hS q 1 (ax_W_at he) rfl hin hd (fun H1 locs1 hP1 hD1 hS1 => ?_)
  rw [e1] at hP1 hD1
  exact k H1 locs1 ls hP1 hD1 hS1 hL
theorem av_zast (K : av_K p s m args meth c D cl ca A cc nL own Ts) {q n : Nat} {f : Nat → Int32} {i : Int32} {x : Int32} (hd : decode cc pc = .ok (.bastore, 1)) (he : w[q]? = some (.inl (2, n, .inl f))) (hin : vp_in i n) (hw : w.set q (.inl (2, n, .inl (upd f i.toNatClampNeg (vp_nar .boolean x)))) = w') (k : av_V p l e R s m args below meth c D cl A ad ca nL Q cells slots (pc + 1) L st w') : av_V p l e R s m args below meth c D cl A ad ca nL Q cells slots pc L (.int x :: .int i :: .ref q :: st) w := fun H locs ls hP hD hS hL => by
  have e1 : (ax_W ad ca w).set q (ad q, .inl (ca 2, n, .inl (upd f i.toNatClampNeg (vp_nar .boolean x)))) = ax_W ad ca w' := by
    rw [← hw, ← ax_W_set]; rfl
  refine va_zast K.1 K.2.1 K.2.2.2.2.2.1 hP hD hS q 2 (ax_W_at he) rfl hin hd (fun H1 locs1 hP1 hD1 hS1 => ?_)
  rw [e1] at hP1 hD1
  exact k H1 locs1 ls hP1 hD1 hS1 hL
theorem av_aald (K : av_K p s m args meth c D cl ca A cc nL own Ts) {q n j : Nat} {f : Nat → Option Nat} {i : Int32} (hd : decode cc pc = .ok (.aaload, 1)) (he : w[q]? = some (.inl (3, n, .inr (.inr (.inr (.inr f)))))) (hin : vp_in i n) (hj : f i.toNatClampNeg = some j) (k : av_V p l e R s m args below meth c D cl A ad ca nL Q cells slots (pc + 1) L (.ref j :: st) w) : av_V p l e R s m args below meth c D cl A ad ca nL Q cells slots pc L (.int i :: .ref q :: st) w := fun H locs ls hP hD hS hL => by
  have hlt : i.toNatClampNeg < n := Nat.not_le.mp fun q => hin (Or.inr q)
  have hc := hP q _ (ax_W_at he)
  refine W.aald (v := .ref (ad j)) (ty := .array .long) K.1 K.2.1 hc ((K.2.2.2.2.2.1.2 3 _ rfl).1 n (fun j => va_rf ((f j).map ad))) rfl (fun q => by cases q) (by show ¬ (i < 0 ∨ (arrV _ _ _).slots.size ≤ _); rw [arrV_size]; exact hin) ?_ rfl rfl hd (k H locs ls hP hD hS hL)
  show (arrV (ca 3) n (fun j => va_rf ((f j).map ad))).slots[i.toNatClampNeg]? = _
  rw [arrV_read _ _ hlt, hj]
  rfl
theorem av_iushr (K : av_K p s m args meth c D cl ca A cc nL own Ts) {x y : Int32} (hd : decode cc pc = .ok (.iushr, 1)) (k : av_V p l e R s m args below meth c D cl A ad ca nL Q cells slots (pc + 1) L (.int (x.toUInt32 >>> (y.toUInt32 &&& Int32.toUInt32 31)).toInt32 :: st) w) : av_V p l e R s m args below meth c D cl A ad ca nL Q cells slots pc L (.int y :: .int x :: st) w := fun H locs ls hP hD hS hL => lv_iushr K.1 K.2.1 hd rfl (k H locs ls hP hD hS hL)
theorem av_max (K : av_K p s m args meth c D cl ca A cc nL own Ts) {index : Nat} {x y : Int32} (hl : Cond.methodLink own index Lib.Math.max.name ∈ Ts) (hs : Cond.static Lib.Math.max.name ∈ Ts) (hi : Cond.initialized "java/lang/Math" ∈ Ts) (hco : Cond.code Lib.Math.max.name Lib.Math.max.code 2 (some .int) ∈ Ts) (hf : 1 ≤ R.frames) (hlo : (st.map Value.category).sum + 13 ≤ R.locals) (h1 : cells ≤ R.cells) (h2 : slots ≤ R.slots) (hd : decode cc pc = .ok (.invokestatic index, 3)) (k : av_V p l e R s m args below meth c D cl A ad ca nL Q cells slots (pc + 3) L (.int (if x < y then y else x) :: st) w) : av_V p l e R s m args below meth c D cl A ad ca nL Q cells slots pc L (.int y :: .int x :: st) w := fun H locs ls hP hD hS hL => va_mmax K.1 K.2.1 (K.2.2.1.trans hL.1.symm) K.2.2.2.1 (K.2.2.2.2.1 _ hl) (K.2.2.2.2.1 _ hs) (K.2.2.2.2.1 _ hi) (K.2.2.2.2.1 _ hco) hf (by rw [List.map_map]; simpa [Function.comp_def, ax_v_cat] using hlo) h1 h2 hd (k H locs ls hP hD hS hL)
end AV
end
section
/-! contracts over abstract worlds: the class's nest words and the table of masks stand beside every world -/
def av_NK (w : Cond) : Bool := match w with
  | .fieldLinkNest _ _ _ _ _ _ => true
  | .methodLinkNest _ _ _ _ => true
  | _ => false
theorem av_NW {w : Cond} (hw : av_NK w = true) {s U : State} (hW : s.WarmedH U.vm) (h : va_Nw w s) : va_Nw w U := by
  cases w with
  | fieldLinkNest a i b n d x => exact va_Nw.warmF hW h
  | methodLinkNest a i x y => exact va_Nw.warmM hW h
  | _ => cases hw
theorem av_NS {w : Cond} (hw : av_NK w = true) {u U : State} (hv : u.vm = U.vm) (h : va_Nw w u) : va_Nw w U := by
  cases w with
  | fieldLinkNest a i b n d x => exact va_Nw.same rfl hv h
  | methodLinkNest a i x y => exact va_Nw.same rfl hv h
  | _ => cases hw
def av_G (Ns : List Cond) (tab : Nat → Int64) (A : Nat → Prop) (U : State) (H : Heap) : Prop := Ns.all av_NK = true ∧ (∀ w ∈ Ns, va_Nw w U) ∧ ∃ t : Nat, va_Z "FaultTreeDesk" "ON_IN_WORD" "[J" (.ref t) A U H ∧ va_T .long t 6 (fun j => .long (tab j)) A U H
theorem av_G.to {Ns : List Cond} {tab : Nat → Int64} {A B : Nat → Prop} {s U : State} {H H1 : Heap} (h : av_G Ns tab A s H) (hW : s.WarmedH U.vm) (hq : ∀ a : Nat, a < H.size → ¬ A a → H1[a]? = H[a]?) (hAB : ∀ q, B q → A q) : av_G Ns tab B U H1 := by
  obtain ⟨h0, h1, t, hZ, hT⟩ := h
  exact ⟨h0, fun w hw => av_NW (List.all_eq_true.mp h0 w hw) hW (h1 w hw), t, ((va_Z.moved hW.alike hZ).kept hq).narrow hAB, ((va_T.moved hW.alike hT).kept hq).narrow hAB⟩
theorem av_G.calling {Ns : List Cond} {tab : Nat → Int64} {A : Nat → Prop} {U : State} {g : JFrame} {mk : MethodId} {a : Array Value} (h : av_G Ns tab A U U.heap) : av_G Ns tab A (U.calling g mk a) (U.calling g mk a).heap := by
  obtain ⟨h0, h1, t, hZ, hT⟩ := h
  exact ⟨h0, fun w hw => av_NS (u := U) (U := U.calling g mk a) (List.all_eq_true.mp h0 w hw) rfl (h1 w hw), t, va_Z.moved (u := U) (U := U.calling g mk a) (Vm.Alike.refl U.vm) hZ, va_T.moved (u := U) (U := U.calling g mk a) (Vm.Alike.refl U.vm) hT⟩
def av_Pre (D : va_G) (cl : List vw_C) (ca : Nat → Nat) (Ns : List Cond) (tab : Nat → Int64) (ad : Nat → Nat) (w : List va_E) (sz : Nat) (U : State) : Prop := U.heap.size = sz ∧ va_P D cl (ax_W ad ca w) U.heap ∧ va_K D cl (ax_ty ca) U ∧ va_D (fun _ => True) (ax_W ad ca w) ∧ av_G Ns tab (va_A (ax_W ad ca w) sz) U U.heap
def av_B (D : va_G) (cl : List vw_C) (ad ca : Nat → Nat) (A0 : Nat → Prop) (w' : List va_E) (t : State) : Prop := va_P D cl (ax_W ad ca w') t.heap ∧ va_D A0 (ax_W ad ca w')
theorem av_blind {D : va_G} {cl : List vw_C} {ca : Nat → Nat} {Ns : List Cond} {tab : Nat → Int64} {ad : Nat → Nat} {w : List va_E} {sz : Nat} {av : List Value} : FrameBlind (va_Pc av (av_Pre D cl ca Ns tab ad w sz)) :=
  fun a U g mk q => ⟨q.1, q.2.1, q.2.2.1, va_K.moved (u := U) (U := U.calling g mk a) (Vm.Alike.refl U.vm) q.2.2.2.1, q.2.2.2.2.1, q.2.2.2.2.2.calling⟩
/-- a method that answers an int (or a boolean), a long, nothing; that makes no cell and throws nothing -/
def av_Ci (l : Launch) (D : va_G) (cl : List vw_C) (ca : Nat → Nat) (Ns : List Cond) (tab : Nat → Int64) (y : MethodName) (ws : List Cond) (rm : Room) (as : List Value) (w : List va_E) (post : Int32 → List va_E → Prop) : Prop :=
  ∀ (ad : Nat → Nat) (sz : Nat), Met l y ws rm (va_Pc (as.map (ax_v ad)) (av_Pre D cl ca Ns tab ad w sz)) (va_Qi post (av_B D cl ad ca (va_A (ax_W ad ca w) sz)) (va_A (ax_W ad ca w) sz)) 0 0 (va_A (ax_W ad ca w) sz)
def av_Cl (l : Launch) (D : va_G) (cl : List vw_C) (ca : Nat → Nat) (Ns : List Cond) (tab : Nat → Int64) (y : MethodName) (ws : List Cond) (rm : Room) (as : List Value) (w : List va_E) (post : Int64 → List va_E → Prop) : Prop :=
  ∀ (ad : Nat → Nat) (sz : Nat), Met l y ws rm (va_Pc (as.map (ax_v ad)) (av_Pre D cl ca Ns tab ad w sz)) (va_Ql post (av_B D cl ad ca (va_A (ax_W ad ca w) sz)) (va_A (ax_W ad ca w) sz)) 0 0 (va_A (ax_W ad ca w) sz)
def av_Cv (l : Launch) (D : va_G) (cl : List vw_C) (ca : Nat → Nat) (Ns : List Cond) (tab : Nat → Int64) (y : MethodName) (ws : List Cond) (rm : Room) (as : List Value) (w : List va_E) (post : List va_E → Prop) : Prop :=
  ∀ (ad : Nat → Nat) (sz : Nat), Met l y ws rm (va_Pc (as.map (ax_v ad)) (av_Pre D cl ca Ns tab ad w sz)) (va_Qv post (av_B D cl ad ca (va_A (ax_W ad ca w) sz)) (va_A (ax_W ad ca w) sz)) 0 0 (va_A (ax_W ad ca w) sz)
section AC
variable {l : Launch} {D : va_G} {cl : List vw_C} {ca : Nat → Nat} {Ns : List Cond} {tab : Nat → Int64}
theorem av_inI {y : MethodName} {ws ws' : List Cond} {rm : Room} {as : List Value} {w : List va_E} {post : Int32 → List va_E → Prop} {cc : ByteArray} {nL : Nat} {ty : FieldType} (hy : plainName y.cls = true) (hw : ws = Cond.code y cc nL (some ty) :: ws') (hn : (ax_ar as).length ≤ nL)
    (h : ∀ (p : Program) (e : Env) (s : State) (m : MethodId) (args : Array Value) (below : List Frame) (meth : Method) (c : Code) (A : Nat → Prop) (ad : Nat → Nat), av_K p s m args meth c D cl ca A cc nL y.cls ws' → av_G Ns tab A s s.heap → meth.sig.returnType = some ty →
      av_V p l e rm s m args below meth c D cl A ad ca nL (MQ below (va_Qi post (av_B D cl ad ca A) A) args s 0 0 A) 0 0 0 (ax_en nL as) [] w) : av_Ci l D cl ca Ns tab y ws rm as w post := by
  intro ad sz
  refine Met.ofW (cc := cc) (maxL := nL) (ret := some ty) hy hw ?_
  intro p e s m args below meth c s₁ B hml hv
  obtain ⟨rfl, hsz, hP, hK, hD0, hG⟩ := hv
  subst hsz
  have hts := atoms_spec (ws := ws) B.pre
  have hD := hD0.self (sz := s.heap.size)
  generalize hAe : va_A (ax_W ad ca w) s.heap.size = A at hD hG ⊢
  have hA : ∀ q : Nat, s.heap.size ≤ q → A q := fun q h => by rw [← hAe]; exact Or.inr h
  rw [lg_entry_eq]
  exact h p e s m _ below meth c A ad ⟨B.exec, B.bytes, hml, findClass_of_methodNamed B.named, fun w h9 => hts w (by rw [hw]; exact List.mem_cons_of_mem _ h9), hK, hA, B.notSynchronized⟩ hG B.returns s.heap [] _ hP hD va_S.rf (ax_L.en ad as hn)
theorem av_inL {y : MethodName} {ws ws' : List Cond} {rm : Room} {as : List Value} {w : List va_E} {post : Int64 → List va_E → Prop} {cc : ByteArray} {nL : Nat} {ty : FieldType} (hy : plainName y.cls = true) (hw : ws = Cond.code y cc nL (some ty) :: ws') (hn : (ax_ar as).length ≤ nL)
    (h : ∀ (p : Program) (e : Env) (s : State) (m : MethodId) (args : Array Value) (below : List Frame) (meth : Method) (c : Code) (A : Nat → Prop) (ad : Nat → Nat), av_K p s m args meth c D cl ca A cc nL y.cls ws' → av_G Ns tab A s s.heap → meth.sig.returnType = some ty →
      av_V p l e rm s m args below meth c D cl A ad ca nL (MQ below (va_Ql post (av_B D cl ad ca A) A) args s 0 0 A) 0 0 0 (ax_en nL as) [] w) : av_Cl l D cl ca Ns tab y ws rm as w post := by
  intro ad sz
  refine Met.ofW (cc := cc) (maxL := nL) (ret := some ty) hy hw ?_
  intro p e s m args below meth c s₁ B hml hv
  obtain ⟨rfl, hsz, hP, hK, hD0, hG⟩ := hv
  subst hsz
  have hts := atoms_spec (ws := ws) B.pre
  have hD := hD0.self (sz := s.heap.size)
  generalize hAe : va_A (ax_W ad ca w) s.heap.size = A at hD hG ⊢
  have hA : ∀ q : Nat, s.heap.size ≤ q → A q := fun q h => by rw [← hAe]; exact Or.inr h
  rw [lg_entry_eq]
  exact h p e s m _ below meth c A ad ⟨B.exec, B.bytes, hml, findClass_of_methodNamed B.named, fun w h9 => hts w (by rw [hw]; exact List.mem_cons_of_mem _ h9), hK, hA, B.notSynchronized⟩ hG B.returns s.heap [] _ hP hD va_S.rf (ax_L.en ad as hn)
theorem av_inV {y : MethodName} {ws ws' : List Cond} {rm : Room} {as : List Value} {w : List va_E} {post : List va_E → Prop} {cc : ByteArray} {nL : Nat} (hy : plainName y.cls = true) (hw : ws = Cond.code y cc nL none :: ws') (hn : (ax_ar as).length ≤ nL)
    (h : ∀ (p : Program) (e : Env) (s : State) (m : MethodId) (args : Array Value) (below : List Frame) (meth : Method) (c : Code) (A : Nat → Prop) (ad : Nat → Nat), av_K p s m args meth c D cl ca A cc nL y.cls ws' → av_G Ns tab A s s.heap → meth.sig.returnType = none →
      av_V p l e rm s m args below meth c D cl A ad ca nL (MQ below (va_Qv post (av_B D cl ad ca A) A) args s 0 0 A) 0 0 0 (ax_en nL as) [] w) : av_Cv l D cl ca Ns tab y ws rm as w post := by
  intro ad sz
  refine Met.ofW (cc := cc) (maxL := nL) (ret := none) hy hw ?_
  intro p e s m args below meth c s₁ B hml hv
  obtain ⟨rfl, hsz, hP, hK, hD0, hG⟩ := hv
  subst hsz
  have hts := atoms_spec (ws := ws) B.pre
  have hD := hD0.self (sz := s.heap.size)
  generalize hAe : va_A (ax_W ad ca w) s.heap.size = A at hD hG ⊢
  have hA : ∀ q : Nat, s.heap.size ≤ q → A q := fun q h => by rw [← hAe]; exact Or.inr h
  rw [lg_entry_eq]
  exact h p e s m _ below meth c A ad ⟨B.exec, B.bytes, hml, findClass_of_methodNamed B.named, fun w h9 => hts w (by rw [hw]; exact List.mem_cons_of_mem _ h9), hK, hA, B.notSynchronized⟩ hG B.returns s.heap [] _ hP hD va_S.rf (ax_L.en ad as hn)
variable {p : Program} {e : Env} {R : Room} {s : State} {m : MethodId} {args : Array Value} {below : List Frame} {meth : Method} {c : Code} {cells slots : Nat} {Q : State → Prop}
variable {A : Nat → Prop} {ad : Nat → Nat} {cc : ByteArray} {nL : Nat} {own : String} {Ts : List Cond}
variable {pc : Nat} {L L' : List (Option Value)} {st st0 : List Value} {w w' : List va_E}
theorem av_ireturn (K : av_K p s m args meth c D cl ca A cc nL own Ts) {post : Int32 → List va_E → Prop} {v : Int32} (hr : meth.sig.returnType = some .int) (hd : decode cc pc = .ok (.ireturn, 1)) (hp : post v w) : av_V p l e R s m args below meth c D cl A ad ca nL (MQ below (va_Qi post (av_B D cl ad ca A) A) args s cells slots A) cells slots pc L [.int v] w :=
  fun H locs ls hP hD hS hL => W.iret (v := v) K.1 K.2.1 hr (fun t ht hW => ⟨⟨v, w, rfl, hp, by rw [ht]; exact hP, hD⟩, hS.F ht⟩) hS.2.2 hd K.2.2.2.2.2.2.2
theorem av_zreturn (K : av_K p s m args meth c D cl ca A cc nL own Ts) {post : Int32 → List va_E → Prop} {v : Int32} (hr : meth.sig.returnType = some .boolean) (hn : narrow .boolean (.int v) = .int v) (hd : decode cc pc = .ok (.ireturn, 1)) (hp : post v w) : av_V p l e R s m args below meth c D cl A ad ca nL (MQ below (va_Qi post (av_B D cl ad ca A) A) args s cells slots A) cells slots pc L [.int v] w :=
  fun H locs ls hP hD hS hL => W.zret (v := v) K.1 K.2.1 hr hn (fun t ht hW => ⟨⟨v, w, rfl, hp, by rw [ht]; exact hP, hD⟩, hS.F ht⟩) hS.2.2 hd K.2.2.2.2.2.2.2
theorem av_lreturn (K : av_K p s m args meth c D cl ca A cc nL own Ts) {post : Int64 → List va_E → Prop} {v : Int64} (hr : meth.sig.returnType = some .long) (hd : decode cc pc = .ok (.lreturn, 1)) (hp : post v w) : av_V p l e R s m args below meth c D cl A ad ca nL (MQ below (va_Ql post (av_B D cl ad ca A) A) args s cells slots A) cells slots pc L [.long v] w :=
  fun H locs ls hP hD hS hL => W.lret (v := v) K.1 K.2.1 hr (fun t ht hW => ⟨⟨v, w, rfl, hp, by rw [ht]; exact hP, hD⟩, hS.F ht⟩) hS.2.2 hd K.2.2.2.2.2.2.2
theorem av_return (K : av_K p s m args meth c D cl ca A cc nL own Ts) {post : List va_E → Prop} (hr : meth.sig.returnType = none) (hd : decode cc pc = .ok (.return_, 1)) (hp : post w) : av_V p l e R s m args below meth c D cl A ad ca nL (MQ below (va_Qv post (av_B D cl ad ca A) A) args s cells slots A) cells slots pc L [] w :=
  fun H locs ls hP hD hS hL => W.vret K.1 K.2.1 hr (fun t ht hW => ⟨⟨w, rfl, hp, by rw [ht]; exact hP, hD⟩, hS.F ht⟩) hS.2.2 hd K.2.2.2.2.2.2.2
theorem av_sub (K : av_K p s m args meth c D cl ca A cc nL own Ts) {H : Heap} {locs : List Loc} (hD : va_D A (ax_W ad ca w)) (hS : va_S A s.heap H locs) : ∀ q, va_A (ax_W ad ca w) H.size q → A q := by
  intro q h
  rcases h with ⟨k, e, h⟩ | h
  · exact hD.2 k (q, e) h
  · exact K.2.2.2.2.2.2.1 q (Nat.le_trans hS.1 h)
theorem av_pre (K : av_K p s m args meth c D cl ca A cc nL own Ts) (G : av_G Ns tab A s s.heap) {H : Heap} {locs : List Loc} (hP : va_P D cl (ax_W ad ca w) H) (hD : va_D A (ax_W ad ca w)) (hS : va_S A s.heap H locs) (av : List Value) : PreS s H (va_Pc (av.map (ax_v ad)) (av_Pre D cl ca Ns tab ad w H.size)) (av.map (ax_v ad)) :=
  ⟨av_blind, fun U hU hW => ⟨rfl, by rw [hU], by rw [hU]; exact hP, va_K.moved hW.alike K.2.2.2.2.2.1, hD.weaken (fun _ _ _ _ => trivial), by rw [hU]; exact G.to hW (fun a h1 h2 => hS.2.1 a h1 h2) (av_sub K hD hS)⟩⟩
/-- calls: virtual (V), static (S); int, long, nothing -/
theorem av_cVi (K : av_K p s m args meth c D cl ca A cc nL own Ts) (G : av_G Ns tab A s s.heap) {y : MethodName} {ws1 : List Cond} {rm : Room} {bytes : ByteArray} {maxL index n q ci : Nat} {ret : Option FieldType} {C : String} {T : u_T} {N : Nat} {fs As : List Value} {post : Int32 → List va_E → Prop} (cal : av_Ci l D cl ca Ns tab y ws1 rm (.ref q :: As) w post) (cw : CallW R s args own C index y bytes maxL ret ws1 rm 0 0 n)
    (hc : cl[ci]? = some (C, T, N)) (he : w[q]? = some (.inr (ci, fs))) (hn : As.length = n) (hst : As.reverse ++ .ref q :: st = st0) (hroom : (st.map Value.category).sum ≤ 8) (hd : decode cc pc = .ok (.invokevirtual index, 3)) (hf : cells ≤ R.cells ∧ slots ≤ R.slots)
    (k : ∀ r w', post r w' → av_V p l e R s m args below meth c D cl A ad ca nL Q cells slots (pc + 3) L (.int r :: st) w') : av_V p l e R s m args below meth c D cl A ad ca nL Q cells slots pc L st0 w := by
  intro H locs ls hP hD hS hL
  subst hst
  have hFc := av_sub K hD hS
  have hpr := av_pre K G hP hD hS (.ref q :: As)
  refine va_calli (va_runV (As := As.map (ax_v ad)) (rest := st.map (ax_v ad)) ⟨K.1, K.2.1, K.2.2.1, K.2.2.2.1, K.2.2.2.2.1⟩ (cal ad H.size) cw ⟨hpr.1, va_recv K.2.2.2.2.2.1 hP hc (ax_W_at he), hpr.2⟩ rfl (by rw [List.length_map]; exact hn) hL.1 (by simp [ax_v]) (lv_room (by rw [List.map_map]; simpa [Function.comp_def, ax_v_cat] using hroom)) hd hf) hS (fun q _ h => hFc q h) hFc (fun r w' t H1 locs1 ht hvm hp hB hz1 hk1 hS1 => ?_)
  obtain ⟨hP1, hD1⟩ := hB
  rw [ht] at hP1
  exact k r w' hp H1 locs1 ls hP1 (hD1.weaken (fun _ q _ h => hFc q.1 h)) hS1 hL
theorem av_cVl (K : av_K p s m args meth c D cl ca A cc nL own Ts) (G : av_G Ns tab A s s.heap) {y : MethodName} {ws1 : List Cond} {rm : Room} {bytes : ByteArray} {maxL index n q ci : Nat} {ret : Option FieldType} {C : String} {T : u_T} {N : Nat} {fs As : List Value} {post : Int64 → List va_E → Prop} (cal : av_Cl l D cl ca Ns tab y ws1 rm (.ref q :: As) w post) (cw : CallW R s args own C index y bytes maxL ret ws1 rm 0 0 n)
    (hc : cl[ci]? = some (C, T, N)) (he : w[q]? = some (.inr (ci, fs))) (hn : As.length = n) (hst : As.reverse ++ .ref q :: st = st0) (hroom : (st.map Value.category).sum ≤ 8) (hd : decode cc pc = .ok (.invokevirtual index, 3)) (hf : cells ≤ R.cells ∧ slots ≤ R.slots)
    (k : ∀ r w', post r w' → av_V p l e R s m args below meth c D cl A ad ca nL Q cells slots (pc + 3) L (.long r :: st) w') : av_V p l e R s m args below meth c D cl A ad ca nL Q cells slots pc L st0 w := by
  intro H locs ls hP hD hS hL
  subst hst
  have hFc := av_sub K hD hS
  have hpr := av_pre K G hP hD hS (.ref q :: As)
  refine va_calll (va_runV (As := As.map (ax_v ad)) (rest := st.map (ax_v ad)) ⟨K.1, K.2.1, K.2.2.1, K.2.2.2.1, K.2.2.2.2.1⟩ (cal ad H.size) cw ⟨hpr.1, va_recv K.2.2.2.2.2.1 hP hc (ax_W_at he), hpr.2⟩ rfl (by rw [List.length_map]; exact hn) hL.1 (by simp [ax_v]) (lv_room (by rw [List.map_map]; simpa [Function.comp_def, ax_v_cat] using hroom)) hd hf) hS (fun q _ h => hFc q h) hFc (fun r w' t H1 locs1 ht hvm hp hB hz1 hk1 hS1 => ?_)
  obtain ⟨hP1, hD1⟩ := hB
  rw [ht] at hP1
  exact k r w' hp H1 locs1 ls hP1 (hD1.weaken (fun _ q _ h => hFc q.1 h)) hS1 hL
theorem av_cVv (K : av_K p s m args meth c D cl ca A cc nL own Ts) (G : av_G Ns tab A s s.heap) {y : MethodName} {ws1 : List Cond} {rm : Room} {bytes : ByteArray} {maxL index n q ci : Nat} {ret : Option FieldType} {C : String} {T : u_T} {N : Nat} {fs As : List Value} {post : List va_E → Prop} (cal : av_Cv l D cl ca Ns tab y ws1 rm (.ref q :: As) w post) (cw : CallW R s args own C index y bytes maxL ret ws1 rm 0 0 n)
    (hc : cl[ci]? = some (C, T, N)) (he : w[q]? = some (.inr (ci, fs))) (hn : As.length = n) (hst : As.reverse ++ .ref q :: st = st0) (hroom : (st.map Value.category).sum ≤ 8) (hd : decode cc pc = .ok (.invokevirtual index, 3)) (hf : cells ≤ R.cells ∧ slots ≤ R.slots)
    (k : ∀ w', post w' → av_V p l e R s m args below meth c D cl A ad ca nL Q cells slots (pc + 3) L st w') : av_V p l e R s m args below meth c D cl A ad ca nL Q cells slots pc L st0 w := by
  intro H locs ls hP hD hS hL
  subst hst
  have hFc := av_sub K hD hS
  have hpr := av_pre K G hP hD hS (.ref q :: As)
  refine va_callv (va_runV (As := As.map (ax_v ad)) (rest := st.map (ax_v ad)) ⟨K.1, K.2.1, K.2.2.1, K.2.2.2.1, K.2.2.2.2.1⟩ (cal ad H.size) cw ⟨hpr.1, va_recv K.2.2.2.2.2.1 hP hc (ax_W_at he), hpr.2⟩ rfl (by rw [List.length_map]; exact hn) hL.1 (by simp [ax_v]) (lv_room (by rw [List.map_map]; simpa [Function.comp_def, ax_v_cat] using hroom)) hd hf) hS (fun q _ h => hFc q h) hFc (fun w' t H1 locs1 ht hvm hp hB hz1 hk1 hS1 => ?_)
  obtain ⟨hP1, hD1⟩ := hB
  rw [ht] at hP1
  exact k w' hp H1 locs1 ls hP1 (hD1.weaken (fun _ q _ h => hFc q.1 h)) hS1 hL
theorem av_cSi (K : av_K p s m args meth c D cl ca A cc nL own Ts) (G : av_G Ns tab A s s.heap) {y : MethodName} {ws1 : List Cond} {rm : Room} {bytes : ByteArray} {maxL index n : Nat} {ret : Option FieldType} {As : List Value} {post : Int32 → List va_E → Prop} (cal : av_Ci l D cl ca Ns tab y ws1 rm As w post) (cw : CallB R s args own index y bytes maxL ret ws1 rm 0 0 n ∧ (Cond.static y).before args s = true)
    (hn : As.length = n) (hst : As.reverse ++ st = st0) (hroom : (st.map Value.category).sum ≤ 8) (hd : decode cc pc = .ok (.invokestatic index, 3)) (hf : cells ≤ R.cells ∧ slots ≤ R.slots)
    (k : ∀ r w', post r w' → av_V p l e R s m args below meth c D cl A ad ca nL Q cells slots (pc + 3) L (.int r :: st) w') : av_V p l e R s m args below meth c D cl A ad ca nL Q cells slots pc L st0 w := by
  intro H locs ls hP hD hS hL
  subst hst
  have hFc := av_sub K hD hS
  refine va_calli (va_runS (As := As.map (ax_v ad)) (rest := st.map (ax_v ad)) ⟨K.1, K.2.1, K.2.2.1, K.2.2.2.1, K.2.2.2.2.1⟩ (cal ad H.size) cw (av_pre K G hP hD hS As) rfl (by rw [List.length_map]; exact hn) hL.1 (by simp) (lv_room (by rw [List.map_map]; simpa [Function.comp_def, ax_v_cat] using hroom)) hd hf) hS (fun q _ h => hFc q h) hFc (fun r w' t H1 locs1 ht hvm hp hB hz1 hk1 hS1 => ?_)
  obtain ⟨hP1, hD1⟩ := hB
  rw [ht] at hP1
  exact k r w' hp H1 locs1 ls hP1 (hD1.weaken (fun _ q _ h => hFc q.1 h)) hS1 hL
theorem av_cSl (K : av_K p s m args meth c D cl ca A cc nL own Ts) (G : av_G Ns tab A s s.heap) {y : MethodName} {ws1 : List Cond} {rm : Room} {bytes : ByteArray} {maxL index n : Nat} {ret : Option FieldType} {As : List Value} {post : Int64 → List va_E → Prop} (cal : av_Cl l D cl ca Ns tab y ws1 rm As w post) (cw : CallB R s args own index y bytes maxL ret ws1 rm 0 0 n ∧ (Cond.static y).before args s = true)
    (hn : As.length = n) (hst : As.reverse ++ st = st0) (hroom : (st.map Value.category).sum ≤ 8) (hd : decode cc pc = .ok (.invokestatic index, 3)) (hf : cells ≤ R.cells ∧ slots ≤ R.slots)
    (k : ∀ r w', post r w' → av_V p l e R s m args below meth c D cl A ad ca nL Q cells slots (pc + 3) L (.long r :: st) w') : av_V p l e R s m args below meth c D cl A ad ca nL Q cells slots pc L st0 w := by
  intro H locs ls hP hD hS hL
  subst hst
  have hFc := av_sub K hD hS
  refine va_calll (va_runS (As := As.map (ax_v ad)) (rest := st.map (ax_v ad)) ⟨K.1, K.2.1, K.2.2.1, K.2.2.2.1, K.2.2.2.2.1⟩ (cal ad H.size) cw (av_pre K G hP hD hS As) rfl (by rw [List.length_map]; exact hn) hL.1 (by simp) (lv_room (by rw [List.map_map]; simpa [Function.comp_def, ax_v_cat] using hroom)) hd hf) hS (fun q _ h => hFc q h) hFc (fun r w' t H1 locs1 ht hvm hp hB hz1 hk1 hS1 => ?_)
  obtain ⟨hP1, hD1⟩ := hB
  rw [ht] at hP1
  exact k r w' hp H1 locs1 ls hP1 (hD1.weaken (fun _ q _ h => hFc q.1 h)) hS1 hL
/-- the table of masks: getstatic, an index from the locals, laload -/
theorem av_tab (K : av_K p s m args meth c D cl ca A cc nL own Ts) (G : av_G Ns tab A s s.heap) {index : Nat} {host : String} {i : Int32} (hl : Cond.fieldLinkNest own index "FaultTreeDesk" "ON_IN_WORD" "[J" host ∈ Ns) (hd : decode cc pc = .ok (.getstatic index, 3)) {pc2 : Nat} (hld : ∀ (H : Heap) (locs : List Loc) (ls : Array Slot) (rest : List Value), ax_L ls nL ad L → W p l e R s m args below meth c H locs cells slots Q (F0 m pc2 ls (.int i :: rest)) → W p l e R s m args below meth c H locs cells slots Q (F0 m (pc + 3) ls rest)) (hd2 : decode cc pc2 = .ok (.laload, 1)) (hin : ¬ (i < 0 ∨ 6 ≤ i.toNatClampNeg))
    (k : av_V p l e R s m args below meth c D cl A ad ca nL Q cells slots (pc2 + 1) L (.long (tab i.toNatClampNeg) :: st) w) : av_V p l e R s m args below meth c D cl A ad ca nL Q cells slots pc L st w := by
  intro H locs ls hP hD hS hL
  obtain ⟨-, hN, t, hZ, hT⟩ := G
  refine va_getsN K.1 K.2.1 hZ hS K.2.2.2.1 (va_Nw.use rfl (hN _ hl)) (fun _ h => h) hd ?_
  refine hld H locs ls _ hL ?_
  exact va_tl K.1 K.2.1 hT hS hin rfl hd2 (k H locs ls hP hD hS hL)
end AC
abbrev av_VI (p : Program) (l : Launch) (e : Env) (R : Room) (s : State) (m : MethodId) (args : Array Value) (below : List Frame) (meth : Method) (c : Code) (D : va_G) (cl : List vw_C) (A : Nat → Prop) (ad ca : Nat → Nat) (nL : Nat) (r : Int32 × List va_E) (pc : Nat) (L : List (Option Value)) (st : List Value) (w : List va_E) : Prop := av_V p l e R s m args below meth c D cl A ad ca nL (MQ below (va_Qi (fun v u => (v, u) = r) (av_B D cl ad ca A) A) args s 0 0 A) 0 0 pc L st w
abbrev av_VL (p : Program) (l : Launch) (e : Env) (R : Room) (s : State) (m : MethodId) (args : Array Value) (below : List Frame) (meth : Method) (c : Code) (D : va_G) (cl : List vw_C) (A : Nat → Prop) (ad ca : Nat → Nat) (nL : Nat) (r : Int64 × List va_E) (pc : Nat) (L : List (Option Value)) (st : List Value) (w : List va_E) : Prop := av_V p l e R s m args below meth c D cl A ad ca nL (MQ below (va_Ql (fun v u => (v, u) = r) (av_B D cl ad ca A) A) args s 0 0 A) 0 0 pc L st w
abbrev av_VV (p : Program) (l : Launch) (e : Env) (R : Room) (s : State) (m : MethodId) (args : Array Value) (below : List Frame) (meth : Method) (c : Code) (D : va_G) (cl : List vw_C) (A : Nat → Prop) (ad ca : Nat → Nat) (nL : Nat) (r : List va_E) (pc : Nat) (L : List (Option Value)) (st : List Value) (w : List va_E) : Prop := av_V p l e R s m args below meth c D cl A ad ca nL (MQ below (va_Qv (fun u => u = r) (av_B D cl ad ca A) A) args s 0 0 A) 0 0 pc L st w
end
section
/-! the heap's own readers and writers over abstract worlds: none where the machine would throw or where the cell is of another kind -/
def hp_gi (w : List va_E) (q ci k : Nat) : Option Int32 := match w[q]? with
  | some (.inr (c, fs)) => if c = ci then (match fs[k]? with
    | some (.int x) => some x
    | _ => none) else none
  | _ => none
def hp_gr (w : List va_E) (q ci k : Nat) : Option Nat := match w[q]? with
  | some (.inr (c, fs)) => if c = ci then (match fs[k]? with
    | some (.ref x) => some x
    | _ => none) else none
  | _ => none
def hp_pi (w : List va_E) (q ci k : Nat) (x : Int32) : Option (List va_E) := match w[q]? with
  | some (.inr (c, fs)) => if c = ci ∧ k < fs.length then some (w.set q (.inr (c, fs.set k (.int x)))) else none
  | _ => none
def hp_pz (w : List va_E) (q ci k : Nat) (x : Int32) : Option (List va_E) := if x = 0 ∨ x = 1 then hp_pi w q ci k x else none
def hp_ri (w : List va_E) (q : Nat) (i : Int32) : Option Int32 := match w[q]? with
  | some (.inl (c, n, .inl f)) => if c = 0 ∧ ¬ (i < 0 ∨ n ≤ i.toNatClampNeg) then some (f i.toNatClampNeg) else none
  | _ => none
def hp_rz (w : List va_E) (q : Nat) (i : Int32) : Option Int32 := match w[q]? with
  | some (.inl (c, n, .inl f)) => if c = 2 ∧ ¬ (i < 0 ∨ n ≤ i.toNatClampNeg) then some (f i.toNatClampNeg) else none
  | _ => none
def hp_rl (w : List va_E) (q : Nat) (i : Int32) : Option Int64 := match w[q]? with
  | some (.inl (c, n, .inr (.inl f))) => if c = 1 ∧ ¬ (i < 0 ∨ n ≤ i.toNatClampNeg) then some (f i.toNatClampNeg) else none
  | _ => none
def hp_ra (w : List va_E) (q : Nat) (i : Int32) : Option Nat := match w[q]? with
  | some (.inl (c, n, .inr (.inr (.inr (.inr f))))) => if c = 3 ∧ ¬ (i < 0 ∨ n ≤ i.toNatClampNeg) then f i.toNatClampNeg else none
  | _ => none
def hp_wi (w : List va_E) (q : Nat) (i : Int32) (x : Int32) : Option (List va_E) := match w[q]? with
  | some (.inl (c, n, .inl f)) => if c = 0 ∧ ¬ (i < 0 ∨ n ≤ i.toNatClampNeg) then some (w.set q (.inl (c, n, .inl (upd f i.toNatClampNeg x)))) else none
  | _ => none
def hp_wz (w : List va_E) (q : Nat) (i : Int32) (x : Int32) : Option (List va_E) := match w[q]? with
  | some (.inl (c, n, .inl f)) => if c = 2 ∧ ¬ (i < 0 ∨ n ≤ i.toNatClampNeg) then some (w.set q (.inl (c, n, .inl (upd f i.toNatClampNeg (vp_nar .boolean x))))) else none
  | _ => none
def hp_wl (w : List va_E) (q : Nat) (i : Int32) (x : Int64) : Option (List va_E) := match w[q]? with
  | some (.inl (c, n, .inr (.inl f))) => if c = 1 ∧ ¬ (i < 0 ∨ n ≤ i.toNatClampNeg) then some (w.set q (.inl (c, n, .inr (.inl (vp_updL f i.toNatClampNeg x))))) else none
  | _ => none
theorem hp_gi_of {w : List va_E} {q ci k : Nat} {x : Int32} (h : hp_gi w q ci k = some x) : ∃ fs, w[q]? = some (.inr (ci, fs)) ∧ fs[k]? = some (.int x) := by
  unfold hp_gi at h
  split at h
  · rename_i c fs hq
    split at h
    · rename_i hc
      subst hc
      split at h
      · rename_i y hy
        cases h
        exact ⟨fs, hq, hy⟩
      · cases h
    · cases h
  · cases h
theorem hp_gr_of {w : List va_E} {q ci k x : Nat} (h : hp_gr w q ci k = some x) : ∃ fs, w[q]? = some (.inr (ci, fs)) ∧ fs[k]? = some (.ref x) := by
  unfold hp_gr at h
  split at h
  · rename_i c fs hq
    split at h
    · rename_i hc
      subst hc
      split at h
      · rename_i y hy
        cases h
        exact ⟨fs, hq, hy⟩
      · cases h
    · cases h
  · cases h
theorem hp_pi_of {w w' : List va_E} {q ci k : Nat} {x : Int32} (h : hp_pi w q ci k x = some w') : ∃ fs, w[q]? = some (.inr (ci, fs)) ∧ k < fs.length ∧ w.set q (.inr (ci, fs.set k (.int x))) = w' := by
  unfold hp_pi at h
  split at h
  · rename_i c fs hq
    split at h
    · rename_i hc
      obtain ⟨hc, hk⟩ := hc
      subst hc
      cases h
      exact ⟨fs, hq, hk, rfl⟩
    · cases h
  · cases h
theorem hp_ri_of {w : List va_E} {q : Nat} {i x : Int32} (h : hp_ri w q i = some x) : ∃ n f, w[q]? = some (.inl (0, n, .inl f)) ∧ vp_in i n ∧ f i.toNatClampNeg = x := by
  unfold hp_ri at h
  split at h
  · rename_i c n f hq
    split at h
    · rename_i hc
      obtain ⟨hc, hk⟩ := hc
      subst hc
      cases h
      exact ⟨n, f, hq, hk, rfl⟩
    · cases h
  · cases h
theorem hp_rz_of {w : List va_E} {q : Nat} {i x : Int32} (h : hp_rz w q i = some x) : ∃ n f, w[q]? = some (.inl (2, n, .inl f)) ∧ vp_in i n ∧ f i.toNatClampNeg = x := by
  unfold hp_rz at h
  split at h
  · rename_i c n f hq
    split at h
    · rename_i hc
      obtain ⟨hc, hk⟩ := hc
      subst hc
      cases h
      exact ⟨n, f, hq, hk, rfl⟩
    · cases h
  · cases h
theorem hp_rl_of {w : List va_E} {q : Nat} {i : Int32} {x : Int64} (h : hp_rl w q i = some x) : ∃ n f, w[q]? = some (.inl (1, n, .inr (.inl f))) ∧ vp_in i n ∧ f i.toNatClampNeg = x := by
  unfold hp_rl at h
  split at h
  · rename_i c n f hq
    split at h
    · rename_i hc
      obtain ⟨hc, hk⟩ := hc
      subst hc
      cases h
      exact ⟨n, f, hq, hk, rfl⟩
    · cases h
  · cases h
theorem hp_ra_of {w : List va_E} {q x : Nat} {i : Int32} (h : hp_ra w q i = some x) : ∃ n f, w[q]? = some (.inl (3, n, .inr (.inr (.inr (.inr f))))) ∧ vp_in i n ∧ f i.toNatClampNeg = some x := by
  unfold hp_ra at h
  split at h
  · rename_i c n f hq
    split at h
    · rename_i hc
      obtain ⟨hc, hk⟩ := hc
      subst hc
      exact ⟨n, f, hq, hk, h⟩
    · cases h
  · cases h
theorem hp_wi_of {w w' : List va_E} {q : Nat} {i x : Int32} (h : hp_wi w q i x = some w') : ∃ n f, w[q]? = some (.inl (0, n, .inl f)) ∧ vp_in i n ∧ w.set q (.inl (0, n, .inl (upd f i.toNatClampNeg x))) = w' := by
  unfold hp_wi at h
  split at h
  · rename_i c n f hq
    split at h
    · rename_i hc
      obtain ⟨hc, hk⟩ := hc
      subst hc
      cases h
      exact ⟨n, f, hq, hk, rfl⟩
    · cases h
  · cases h
theorem hp_wz_of {w w' : List va_E} {q : Nat} {i x : Int32} (h : hp_wz w q i x = some w') : ∃ n f, w[q]? = some (.inl (2, n, .inl f)) ∧ vp_in i n ∧ w.set q (.inl (2, n, .inl (upd f i.toNatClampNeg (vp_nar .boolean x)))) = w' := by
  unfold hp_wz at h
  split at h
  · rename_i c n f hq
    split at h
    · rename_i hc
      obtain ⟨hc, hk⟩ := hc
      subst hc
      cases h
      exact ⟨n, f, hq, hk, rfl⟩
    · cases h
  · cases h
theorem hp_wl_of {w w' : List va_E} {q : Nat} {i : Int32} {x : Int64} (h : hp_wl w q i x = some w') : ∃ n f, w[q]? = some (.inl (1, n, .inr (.inl f))) ∧ vp_in i n ∧ w.set q (.inl (1, n, .inr (.inl (vp_updL f i.toNatClampNeg x)))) = w' := by
  unfold hp_wl at h
  split at h
  · rename_i c n f hq
    split at h
    · rename_i hc
      obtain ⟨hc, hk⟩ := hc
      subst hc
      cases h
      exact ⟨n, f, hq, hk, rfl⟩
    · cases h
  · cases h
def hp_is (w : List va_E) (q ci : Nat) : Option Unit := match w[q]? with
  | some (.inr (c, _)) => if c = ci then some () else none
  | _ => none
theorem hp_is_of {w : List va_E} {q ci : Nat} {u : Unit} (h : hp_is w q ci = some u) : ∃ fs, w[q]? = some (.inr (ci, fs)) := by
  unfold hp_is at h
  split at h
  · rename_i c fs hq
    split at h
    · rename_i hc
      subst hc
      exact ⟨fs, hq⟩
    · cases h
  · cases h
theorem hp_if {α : Type} {c : Prop} [Decidable c] {o : Option α} {r : α} (h : (if c then o else none) = some r) : c ∧ o = some r := by
  by_cases hc : c
  · rw [if_pos hc] at h; exact ⟨hc, h⟩
  · rw [if_neg hc] at h; cases h
theorem hp_bd {α β : Type} {o : Option α} {f : α → Option β} {r : β} (h : o.bind f = some r) : ∃ x, o = some x ∧ f x = some r := by
  cases o with
  | none => cases h
  | some x => exact ⟨x, rfl, h⟩
theorem hp_nz {x : Int32} (h : x = 0 ∨ x = 1) : narrow .boolean (.int x) = .int x := by
  rcases h with h | h <;> subst h <;> decide +kernel
theorem hp_fz {x : Int32} (h : x = 0 ∨ x = 1) : fits .boolean (.int x) = true := by
  rcases h with h | h <;> subst h <;> decide +kernel
section HP
variable {p : Program} {l : Launch} {e : Env} {R : Room} {s : State} {m : MethodId} {args : Array Value} {below : List Frame} {meth : Method} {c : Code} {cells slots : Nat} {Q : State → Prop}
variable {D : va_G} {cl : List vw_C} {ca : Nat → Nat} {A : Nat → Prop} {ad : Nat → Nat} {cc : ByteArray} {nL : Nat} {own : String} {Ts : List Cond}
variable {pc : Nat} {L L' : List (Option Value)} {st : List Value} {w w' : List va_E}
theorem hv_gi (K : av_K p s m args meth c D cl ca A cc nL own Ts) {index ci kf q : Nat} {x : Int32} (f : av_F own Ts cl index ci kf) (hd : decode cc pc = .ok (.getfield index, 3)) (h : hp_gi w q ci kf = some x) (k : av_V p l e R s m args below meth c D cl A ad ca nL Q cells slots (pc + 3) L (.int x :: st) w) : av_V p l e R s m args below meth c D cl A ad ca nL Q cells slots pc L (.ref q :: st) w := by
  obtain ⟨fs, h1, h2⟩ := hp_gi_of h
  exact av_getf K f hd h1 h2 k
theorem hv_gr (K : av_K p s m args meth c D cl ca A cc nL own Ts) {index ci kf q x : Nat} (f : av_F own Ts cl index ci kf) (hd : decode cc pc = .ok (.getfield index, 3)) (h : hp_gr w q ci kf = some x) (k : av_V p l e R s m args below meth c D cl A ad ca nL Q cells slots (pc + 3) L (.ref x :: st) w) : av_V p l e R s m args below meth c D cl A ad ca nL Q cells slots pc L (.ref q :: st) w := by
  obtain ⟨fs, h1, h2⟩ := hp_gr_of h
  exact av_getf K f hd h1 h2 k
theorem hv_giN (K : av_K p s m args meth c D cl ca A cc nL own Ts) {Ns : List Cond} {tab : Nat → Int64} (G : av_G Ns tab A s s.heap) {index ci kf q : Nat} {host : String} {x : Int32} (f : av_FN own host Ts Ns cl index ci kf) (hd : decode cc pc = .ok (.getfield index, 3)) (h : hp_gi w q ci kf = some x) (k : av_V p l e R s m args below meth c D cl A ad ca nL Q cells slots (pc + 3) L (.int x :: st) w) : av_V p l e R s m args below meth c D cl A ad ca nL Q cells slots pc L (.ref q :: st) w := by
  obtain ⟨fs, h1, h2⟩ := hp_gi_of h
  exact av_getfN K G.2.1 f hd h1 h2 k
theorem hv_grN (K : av_K p s m args meth c D cl ca A cc nL own Ts) {Ns : List Cond} {tab : Nat → Int64} (G : av_G Ns tab A s s.heap) {index ci kf q x : Nat} {host : String} (f : av_FN own host Ts Ns cl index ci kf) (hd : decode cc pc = .ok (.getfield index, 3)) (h : hp_gr w q ci kf = some x) (k : av_V p l e R s m args below meth c D cl A ad ca nL Q cells slots (pc + 3) L (.ref x :: st) w) : av_V p l e R s m args below meth c D cl A ad ca nL Q cells slots pc L (.ref q :: st) w := by
  obtain ⟨fs, h1, h2⟩ := hp_gr_of h
  exact av_getfN K G.2.1 f hd h1 h2 k
theorem hv_pi (K : av_K p s m args meth c D cl ca A cc nL own Ts) {index ci kf q : Nat} {x : Int32} (f : av_FP own Ts cl index ci kf .int) (hd : decode cc pc = .ok (.putfield index, 3)) (h : hp_pi w q ci kf x = some w') (k : av_V p l e R s m args below meth c D cl A ad ca nL Q cells slots (pc + 3) L st w') : av_V p l e R s m args below meth c D cl A ad ca nL Q cells slots pc L (.int x :: .ref q :: st) w := by
  obtain ⟨fs, h1, h2, h3⟩ := hp_pi_of h
  exact av_putf K f hd h1 rfl rfl h2 h3 k
theorem hv_pz (K : av_K p s m args meth c D cl ca A cc nL own Ts) {index ci kf q : Nat} {x : Int32} (f : av_FP own Ts cl index ci kf .boolean) (hd : decode cc pc = .ok (.putfield index, 3)) (h : hp_pz w q ci kf x = some w') (k : av_V p l e R s m args below meth c D cl A ad ca nL Q cells slots (pc + 3) L st w') : av_V p l e R s m args below meth c D cl A ad ca nL Q cells slots pc L (.int x :: .ref q :: st) w := by
  unfold hp_pz at h
  split at h
  · rename_i hx
    obtain ⟨fs, h1, h2, h3⟩ := hp_pi_of h
    exact av_putf K f hd h1 (hp_nz hx) (hp_fz hx) h2 h3 k
  · cases h
theorem hv_ri (K : av_K p s m args meth c D cl ca A cc nL own Ts) {q : Nat} {i x : Int32} (hd : decode cc pc = .ok (.iaload, 1)) (h : hp_ri w q i = some x) (k : av_V p l e R s m args below meth c D cl A ad ca nL Q cells slots (pc + 1) L (.int x :: st) w) : av_V p l e R s m args below meth c D cl A ad ca nL Q cells slots pc L (.int i :: .ref q :: st) w := by
  obtain ⟨n, f, h1, h2, h3⟩ := hp_ri_of h
  subst h3
  exact av_iald K hd h1 h2 k
theorem hv_rz (K : av_K p s m args meth c D cl ca A cc nL own Ts) {q : Nat} {i x : Int32} (hd : decode cc pc = .ok (.baload, 1)) (h : hp_rz w q i = some x) (k : av_V p l e R s m args below meth c D cl A ad ca nL Q cells slots (pc + 1) L (.int x :: st) w) : av_V p l e R s m args below meth c D cl A ad ca nL Q cells slots pc L (.int i :: .ref q :: st) w := by
  obtain ⟨n, f, h1, h2, h3⟩ := hp_rz_of h
  subst h3
  exact av_zald K hd h1 h2 k
theorem hv_rl (K : av_K p s m args meth c D cl ca A cc nL own Ts) {q : Nat} {i : Int32} {x : Int64} (hd : decode cc pc = .ok (.laload, 1)) (h : hp_rl w q i = some x) (k : av_V p l e R s m args below meth c D cl A ad ca nL Q cells slots (pc + 1) L (.long x :: st) w) : av_V p l e R s m args below meth c D cl A ad ca nL Q cells slots pc L (.int i :: .ref q :: st) w := by
  obtain ⟨n, f, h1, h2, h3⟩ := hp_rl_of h
  subst h3
  exact av_lald K hd h1 h2 k
theorem hv_ra (K : av_K p s m args meth c D cl ca A cc nL own Ts) {q x : Nat} {i : Int32} (hd : decode cc pc = .ok (.aaload, 1)) (h : hp_ra w q i = some x) (k : av_V p l e R s m args below meth c D cl A ad ca nL Q cells slots (pc + 1) L (.ref x :: st) w) : av_V p l e R s m args below meth c D cl A ad ca nL Q cells slots pc L (.int i :: .ref q :: st) w := by
  obtain ⟨n, f, h1, h2, h3⟩ := hp_ra_of h
  exact av_aald K hd h1 h2 h3 k
theorem hv_wi (K : av_K p s m args meth c D cl ca A cc nL own Ts) {q : Nat} {i x : Int32} (hd : decode cc pc = .ok (.iastore, 1)) (h : hp_wi w q i x = some w') (k : av_V p l e R s m args below meth c D cl A ad ca nL Q cells slots (pc + 1) L st w') : av_V p l e R s m args below meth c D cl A ad ca nL Q cells slots pc L (.int x :: .int i :: .ref q :: st) w := by
  obtain ⟨n, f, h1, h2, h3⟩ := hp_wi_of h
  exact av_iast K hd h1 h2 h3 k
theorem hv_wz (K : av_K p s m args meth c D cl ca A cc nL own Ts) {q : Nat} {i x : Int32} (hd : decode cc pc = .ok (.bastore, 1)) (h : hp_wz w q i x = some w') (k : av_V p l e R s m args below meth c D cl A ad ca nL Q cells slots (pc + 1) L st w') : av_V p l e R s m args below meth c D cl A ad ca nL Q cells slots pc L (.int x :: .int i :: .ref q :: st) w := by
  obtain ⟨n, f, h1, h2, h3⟩ := hp_wz_of h
  exact av_zast K hd h1 h2 h3 k
theorem hv_wl (K : av_K p s m args meth c D cl ca A cc nL own Ts) {q : Nat} {i : Int32} {x : Int64} (hd : decode cc pc = .ok (.lastore, 1)) (h : hp_wl w q i x = some w') (k : av_V p l e R s m args below meth c D cl A ad ca nL Q cells slots (pc + 1) L st w') : av_V p l e R s m args below meth c D cl A ad ca nL Q cells slots pc L (.long x :: .int i :: .ref q :: st) w := by
  obtain ⟨n, f, h1, h2, h3⟩ := hp_wl_of h
  exact av_last K hd h1 h2 h3 k
/-- less is known of the locals -/
def ax_fg (L : List (Option Value)) (ks : List Nat) : List (Option Value) := ks.foldl (fun L k => L.set k none) L
theorem ax_fg_sub (ks : List Nat) : ∀ (L : List (Option Value)) (i : Nat) (v : Value), (ax_fg L ks)[i]? = some (some v) → L[i]? = some (some v) := by
  induction ks with
  | nil => intro L i v h; exact h
  | cons k ks ih =>
    intro L i v h
    have h1 := ih (L.set k none) i v h
    rw [List.getElem?_set] at h1
    by_cases hk : k = i
    · rw [if_pos hk] at h1
      split at h1 <;> cases h1
    · rw [if_neg hk] at h1
      exact h1
theorem hv_fg (ks : List Nat) (hl : ax_fg L ks = L') (k : av_V p l e R s m args below meth c D cl A ad ca nL Q cells slots pc L' st w) : av_V p l e R s m args below meth c D cl A ad ca nL Q cells slots pc L st w :=
  fun H locs ls hP hD hS hL => k H locs ls hP hD hS ⟨hL.1, hL.2.1, fun i v h => hL.2.2 i v (ax_fg_sub ks L i v (by rw [hl]; exact h))⟩
end HP
end
section
/-! names: the good words of the tables, classes, fields, links, codes (printed by a program out of the Statement) -/
def WS : List Cond := lw_tbl.filter goodWord
theorem ws_t {w : Cond} (h : w ∈ tables_1) (hg : goodWord w = true) : w ∈ WS := List.mem_filter.mpr ⟨List.mem_append_right _ h, hg⟩
theorem ws_p {w : Cond} (h : w ∈ k2_sels lw_privs) (hg : goodWord w = true) : w ∈ WS := List.mem_filter.mpr ⟨List.mem_append_left _ h, hg⟩
theorem ws_g : GoodIn WS WS := fun w h => ⟨h, good_of_word (List.mem_filter.mp h).2⟩
theorem gV {own C : String} {idx : Nat} {y : MethodName} {cw : Cond} (h1 : Cond.methodLink own idx y ∈ WS) (h2 : Cond.instanceMethod y ∈ WS) (h3 : Cond.selects C y y ∈ WS) (h4 : Cond.initialized C ∈ WS) (h5 : cw ∈ WS) : GoodIn WS (wsV own idx C y (cw :: WS)) := by
  intro w hw
  refine ws_g w ?_
  rcases List.mem_append.mp hw with h | h
  · simp only [List.mem_cons, List.not_mem_nil, or_false] at h
    rcases h with h | h | h | h <;> subst h <;> assumption
  · rcases List.mem_cons.mp h with h | h
    · subst h; exact h5
    · exact h
theorem gS {own : String} {idx : Nat} {y : MethodName} {cw : Cond} (h1 : Cond.methodLink own idx y ∈ WS) (h2 : Cond.static y ∈ WS) (h3 : Cond.initialized own ∈ WS) (h5 : cw ∈ WS) : GoodIn WS (wsS own idx y (cw :: WS)) := by
  intro w hw
  refine ws_g w ?_
  rcases List.mem_append.mp hw with h | h
  · simp only [List.mem_cons, List.not_mem_nil, or_false] at h
    rcases h with h | h | h <;> subst h <;> assumption
  · rcases List.mem_cons.mp h with h | h
    · subst h; exact h5
    · exact h
theorem gSU {own : String} {idx : Nat} {y : MethodName} {cw : Cond} (h1 : Cond.methodLink own idx y ∈ WS) (h2 : Cond.static y ∈ WS) (h3 : Cond.initialized y.cls ∈ WS) (h5 : cw ∈ WS) : GoodIn WS (va_wsS own idx y (cw :: WS)) := by
  intro w hw
  refine ws_g w ?_
  rcases List.mem_append.mp hw with h | h
  · simp only [List.mem_cons, List.not_mem_nil, or_false] at h
    rcases h with h | h | h <;> subst h <;> assumption
  · rcases List.mem_cons.mp h with h | h
    · subst h; exact h5
    · exact h
def R_D : String := "FaultTreeDesk$Diagram"
def T_D : u_T := fun k => match k with
  | 0 => ("FaultTreeDesk$Diagram", "cells", "[I", true)
  | 1 => ("FaultTreeDesk$Diagram", "pairs", "[I", true)
  | _ => ("FaultTreeDesk$Diagram", "count", "I", false)
def tq_D : Nat → FieldType := fun k => match k with
  | 0 => .array .int
  | 1 => .array .int
  | _ => .int
theorem n_D : ∀ a, a < 3 → ∀ b, b < 3 → a ≠ b → (T_D a).2.1 ≠ (T_D b).2.1 := by decide +kernel
theorem t_D_ok : ∀ k, k < 3 → parseFieldDescriptor (T_D k).2.2.1 = some (tq_D k) := by decide +kernel
theorem la_D_0 : u_lay R_D T_D 0 ∈ WS := ws_t (List.mem_of_getElem? (i := 127) (by decide +kernel)) (by decide +kernel)
theorem la_D_1 : u_lay R_D T_D 1 ∈ WS := ws_t (List.mem_of_getElem? (i := 129) (by decide +kernel)) (by decide +kernel)
theorem la_D_2 : u_lay R_D T_D 2 ∈ WS := ws_t (List.mem_of_getElem? (i := 131) (by decide +kernel)) (by decide +kernel)
theorem la_D : ∀ w ∈ u_ws R_D T_D 3, w ∈ WS := by
  intro w h
  obtain ⟨k, hk, rfl⟩ := List.mem_map.mp h
  have hk := List.mem_range.mp hk
  match k, hk with
  | 0, _ => exact la_D_0
  | 1, _ => exact la_D_1
  | 2, _ => exact la_D_2
  | k + 3, h => exact absurd h (by omega)
def R_E : String := "FaultTreeDesk$Events"
def T_E : u_T := fun k => match k with
  | 0 => ("FaultTreeDesk$Events", "chances", "[I", true)
  | 1 => ("FaultTreeDesk$Events", "holds", "[I", true)
  | _ => ("FaultTreeDesk$Events", "count", "I", false)
def tq_E : Nat → FieldType := fun k => match k with
  | 0 => .array .int
  | 1 => .array .int
  | _ => .int
theorem n_E : ∀ a, a < 3 → ∀ b, b < 3 → a ≠ b → (T_E a).2.1 ≠ (T_E b).2.1 := by decide +kernel
theorem t_E_ok : ∀ k, k < 3 → parseFieldDescriptor (T_E k).2.2.1 = some (tq_E k) := by decide +kernel
theorem la_E_0 : u_lay R_E T_E 0 ∈ WS := ws_t (List.mem_of_getElem? (i := 44) (by decide +kernel)) (by decide +kernel)
theorem la_E_1 : u_lay R_E T_E 1 ∈ WS := ws_t (List.mem_of_getElem? (i := 46) (by decide +kernel)) (by decide +kernel)
theorem la_E_2 : u_lay R_E T_E 2 ∈ WS := ws_t (List.mem_of_getElem? (i := 48) (by decide +kernel)) (by decide +kernel)
theorem la_E : ∀ w ∈ u_ws R_E T_E 3, w ∈ WS := by
  intro w h
  obtain ⟨k, hk, rfl⟩ := List.mem_map.mp h
  have hk := List.mem_range.mp hk
  match k, hk with
  | 0, _ => exact la_E_0
  | 1, _ => exact la_E_1
  | 2, _ => exact la_E_2
  | k + 3, h => exact absurd h (by omega)
def R_G : String := "FaultTreeDesk$Gates"
def T_G : u_T := fun k => match k with
  | 0 => ("FaultTreeDesk$Gates", "kinds", "[I", true)
  | 1 => ("FaultTreeDesk$Gates", "votes", "[I", true)
  | 2 => ("FaultTreeDesk$Gates", "children", "[I", true)
  | 3 => ("FaultTreeDesk$Gates", "below", "[I", true)
  | _ => ("FaultTreeDesk$Gates", "count", "I", false)
def tq_G : Nat → FieldType := fun k => match k with
  | 0 => .array .int
  | 1 => .array .int
  | 2 => .array .int
  | 3 => .array .int
  | _ => .int
theorem n_G : ∀ a, a < 5 → ∀ b, b < 5 → a ≠ b → (T_G a).2.1 ≠ (T_G b).2.1 := by decide +kernel
theorem t_G_ok : ∀ k, k < 5 → parseFieldDescriptor (T_G k).2.2.1 = some (tq_G k) := by decide +kernel
theorem la_G_0 : u_lay R_G T_G 0 ∈ WS := ws_t (List.mem_of_getElem? (i := 69) (by decide +kernel)) (by decide +kernel)
theorem la_G_1 : u_lay R_G T_G 1 ∈ WS := ws_t (List.mem_of_getElem? (i := 71) (by decide +kernel)) (by decide +kernel)
theorem la_G_2 : u_lay R_G T_G 2 ∈ WS := ws_t (List.mem_of_getElem? (i := 73) (by decide +kernel)) (by decide +kernel)
theorem la_G_3 : u_lay R_G T_G 3 ∈ WS := ws_t (List.mem_of_getElem? (i := 75) (by decide +kernel)) (by decide +kernel)
theorem la_G_4 : u_lay R_G T_G 4 ∈ WS := ws_t (List.mem_of_getElem? (i := 77) (by decide +kernel)) (by decide +kernel)
theorem la_G : ∀ w ∈ u_ws R_G T_G 5, w ∈ WS := by
  intro w h
  obtain ⟨k, hk, rfl⟩ := List.mem_map.mp h
  have hk := List.mem_range.mp hk
  match k, hk with
  | 0, _ => exact la_G_0
  | 1, _ => exact la_G_1
  | 2, _ => exact la_G_2
  | 3, _ => exact la_G_3
  | 4, _ => exact la_G_4
  | k + 5, h => exact absurd h (by omega)
def R_O : String := "FaultTreeDesk$Odds"
def T_O : u_T := fun k => match k with
  | _ => ("FaultTreeDesk$Odds", "cells", "[J", true)
def tq_O : Nat → FieldType := fun k => match k with
  | _ => .array .long
theorem n_O : ∀ a, a < 1 → ∀ b, b < 1 → a ≠ b → (T_O a).2.1 ≠ (T_O b).2.1 := by decide +kernel
theorem t_O_ok : ∀ k, k < 1 → parseFieldDescriptor (T_O k).2.2.1 = some (tq_O k) := by decide +kernel
theorem la_O_0 : u_lay R_O T_O 0 ∈ WS := ws_t (List.mem_of_getElem? (i := 115) (by decide +kernel)) (by decide +kernel)
theorem la_O : ∀ w ∈ u_ws R_O T_O 1, w ∈ WS := by
  intro w h
  obtain ⟨k, hk, rfl⟩ := List.mem_map.mp h
  have hk := List.mem_range.mp hk
  match k, hk with
  | 0, _ => exact la_O_0
  | k + 1, h => exact absurd h (by omega)
def R_X : String := "FaultTreeDesk$Terms"
def T_X : u_T := fun k => match k with
  | 0 => ("FaultTreeDesk$Terms", "keys", "[I", true)
  | 1 => ("FaultTreeDesk$Terms", "levels", "[[J", true)
  | 2 => ("FaultTreeDesk$Terms", "words", "I", false)
  | 3 => ("FaultTreeDesk$Terms", "count", "I", false)
  | _ => ("FaultTreeDesk$Terms", "tooMany", "Z", false)
def tq_X : Nat → FieldType := fun k => match k with
  | 0 => .array .int
  | 1 => .array (.array .long)
  | 2 => .int
  | 3 => .int
  | _ => .boolean
theorem n_X : ∀ a, a < 5 → ∀ b, b < 5 → a ≠ b → (T_X a).2.1 ≠ (T_X b).2.1 := by decide +kernel
theorem t_X_ok : ∀ k, k < 5 → parseFieldDescriptor (T_X k).2.2.1 = some (tq_X k) := by decide +kernel
theorem la_X_0 : u_lay R_X T_X 0 ∈ WS := ws_t (List.mem_of_getElem? (i := 148) (by decide +kernel)) (by decide +kernel)
theorem la_X_1 : u_lay R_X T_X 1 ∈ WS := ws_t (List.mem_of_getElem? (i := 150) (by decide +kernel)) (by decide +kernel)
theorem la_X_2 : u_lay R_X T_X 2 ∈ WS := ws_t (List.mem_of_getElem? (i := 152) (by decide +kernel)) (by decide +kernel)
theorem la_X_3 : u_lay R_X T_X 3 ∈ WS := ws_t (List.mem_of_getElem? (i := 154) (by decide +kernel)) (by decide +kernel)
theorem la_X_4 : u_lay R_X T_X 4 ∈ WS := ws_t (List.mem_of_getElem? (i := 156) (by decide +kernel)) (by decide +kernel)
theorem la_X : ∀ w ∈ u_ws R_X T_X 5, w ∈ WS := by
  intro w h
  obtain ⟨k, hk, rfl⟩ := List.mem_map.mp h
  have hk := List.mem_range.mp hk
  match k, hk with
  | 0, _ => exact la_X_0
  | 1, _ => exact la_X_1
  | 2, _ => exact la_X_2
  | 3, _ => exact la_X_3
  | 4, _ => exact la_X_4
  | k + 5, h => exact absurd h (by omega)
def R_T : String := "FaultTreeDesk$Truth"
def T_T : u_T := fun k => match k with
  | 0 => ("FaultTreeDesk$Truth", "rows", "[[J", true)
  | 1 => ("FaultTreeDesk$Truth", "inputs", "[I", true)
  | 2 => ("FaultTreeDesk$Truth", "settings", "I", false)
  | 3 => ("FaultTreeDesk$Truth", "words", "I", false)
  | _ => ("FaultTreeDesk$Truth", "topCode", "I", false)
def tq_T : Nat → FieldType := fun k => match k with
  | 0 => .array (.array .long)
  | 1 => .array .int
  | 2 => .int
  | 3 => .int
  | _ => .int
theorem n_T : ∀ a, a < 5 → ∀ b, b < 5 → a ≠ b → (T_T a).2.1 ≠ (T_T b).2.1 := by decide +kernel
theorem t_T_ok : ∀ k, k < 5 → parseFieldDescriptor (T_T k).2.2.1 = some (tq_T k) := by decide +kernel
theorem la_T_0 : u_lay R_T T_T 0 ∈ WS := ws_t (List.mem_of_getElem? (i := 96) (by decide +kernel)) (by decide +kernel)
theorem la_T_1 : u_lay R_T T_T 1 ∈ WS := ws_t (List.mem_of_getElem? (i := 98) (by decide +kernel)) (by decide +kernel)
theorem la_T_2 : u_lay R_T T_T 2 ∈ WS := ws_t (List.mem_of_getElem? (i := 100) (by decide +kernel)) (by decide +kernel)
theorem la_T_3 : u_lay R_T T_T 3 ∈ WS := ws_t (List.mem_of_getElem? (i := 102) (by decide +kernel)) (by decide +kernel)
theorem la_T_4 : u_lay R_T T_T 4 ∈ WS := ws_t (List.mem_of_getElem? (i := 104) (by decide +kernel)) (by decide +kernel)
theorem la_T : ∀ w ∈ u_ws R_T T_T 5, w ∈ WS := by
  intro w h
  obtain ⟨k, hk, rfl⟩ := List.mem_map.mp h
  have hk := List.mem_range.mp hk
  match k, hk with
  | 0, _ => exact la_T_0
  | 1, _ => exact la_T_1
  | 2, _ => exact la_T_2
  | 3, _ => exact la_T_3
  | 4, _ => exact la_T_4
  | k + 5, h => exact absurd h (by omega)
def R_F : String := "FaultTreeDesk"
def T_F : u_T := fun k => match k with
  | 0 => ("FaultTreeDesk", "events", "LFaultTreeDesk$Events;", true)
  | 1 => ("FaultTreeDesk", "gates", "LFaultTreeDesk$Gates;", true)
  | 2 => ("FaultTreeDesk", "truth", "LFaultTreeDesk$Truth;", true)
  | 3 => ("FaultTreeDesk", "sums", "LFaultTreeDesk$Odds;", true)
  | 4 => ("FaultTreeDesk", "diagram", "LFaultTreeDesk$Diagram;", true)
  | 5 => ("FaultTreeDesk", "terms", "LFaultTreeDesk$Terms;", true)
  | 6 => ("FaultTreeDesk", "topGate", "I", false)
  | 7 => ("FaultTreeDesk", "truthFresh", "Z", false)
  | _ => ("FaultTreeDesk", "termsFresh", "Z", false)
def tq_F : Nat → FieldType := fun k => match k with
  | 0 => .object "FaultTreeDesk$Events"
  | 1 => .object "FaultTreeDesk$Gates"
  | 2 => .object "FaultTreeDesk$Truth"
  | 3 => .object "FaultTreeDesk$Odds"
  | 4 => .object "FaultTreeDesk$Diagram"
  | 5 => .object "FaultTreeDesk$Terms"
  | 6 => .int
  | 7 => .boolean
  | _ => .boolean
theorem n_F : ∀ a, a < 9 → ∀ b, b < 9 → a ≠ b → (T_F a).2.1 ≠ (T_F b).2.1 := by decide +kernel
theorem t_F_ok : ∀ k, k < 9 → parseFieldDescriptor (T_F k).2.2.1 = some (tq_F k) := by decide +kernel
theorem la_F_0 : u_lay R_F T_F 0 ∈ WS := ws_t (List.mem_of_getElem? (i := 168) (by decide +kernel)) (by decide +kernel)
theorem la_F_1 : u_lay R_F T_F 1 ∈ WS := ws_t (List.mem_of_getElem? (i := 170) (by decide +kernel)) (by decide +kernel)
theorem la_F_2 : u_lay R_F T_F 2 ∈ WS := ws_t (List.mem_of_getElem? (i := 172) (by decide +kernel)) (by decide +kernel)
theorem la_F_3 : u_lay R_F T_F 3 ∈ WS := ws_t (List.mem_of_getElem? (i := 174) (by decide +kernel)) (by decide +kernel)
theorem la_F_4 : u_lay R_F T_F 4 ∈ WS := ws_t (List.mem_of_getElem? (i := 176) (by decide +kernel)) (by decide +kernel)
theorem la_F_5 : u_lay R_F T_F 5 ∈ WS := ws_t (List.mem_of_getElem? (i := 178) (by decide +kernel)) (by decide +kernel)
theorem la_F_6 : u_lay R_F T_F 6 ∈ WS := ws_t (List.mem_of_getElem? (i := 180) (by decide +kernel)) (by decide +kernel)
theorem la_F_7 : u_lay R_F T_F 7 ∈ WS := ws_t (List.mem_of_getElem? (i := 182) (by decide +kernel)) (by decide +kernel)
theorem la_F_8 : u_lay R_F T_F 8 ∈ WS := ws_t (List.mem_of_getElem? (i := 184) (by decide +kernel)) (by decide +kernel)
theorem la_F : ∀ w ∈ u_ws R_F T_F 9, w ∈ WS := by
  intro w h
  obtain ⟨k, hk, rfl⟩ := List.mem_map.mp h
  have hk := List.mem_range.mp hk
  match k, hk with
  | 0, _ => exact la_F_0
  | 1, _ => exact la_F_1
  | 2, _ => exact la_F_2
  | 3, _ => exact la_F_3
  | 4, _ => exact la_F_4
  | 5, _ => exact la_F_5
  | 6, _ => exact la_F_6
  | 7, _ => exact la_F_7
  | 8, _ => exact la_F_8
  | k + 9, h => exact absurd h (by omega)
def R_M : String := "FaultTreeDeskModel"
def T_M : u_T := fun k => match k with
  | 0 => ("FaultTreeDeskModel", "code", "I", false)
  | 1 => ("FaultTreeDeskModel", "events", "I", false)
  | 2 => ("FaultTreeDeskModel", "chance", "[I", true)
  | 3 => ("FaultTreeDeskModel", "held", "[I", true)
  | 4 => ("FaultTreeDeskModel", "gates", "I", false)
  | 5 => ("FaultTreeDeskModel", "kinds", "[I", true)
  | 6 => ("FaultTreeDeskModel", "least", "[I", true)
  | 7 => ("FaultTreeDeskModel", "counts", "[I", true)
  | 8 => ("FaultTreeDeskModel", "kids", "[I", true)
  | 9 => ("FaultTreeDeskModel", "top", "I", false)
  | 10 => ("FaultTreeDeskModel", "below", "[Z", true)
  | 11 => ("FaultTreeDeskModel", "ready", "[Z", true)
  | 12 => ("FaultTreeDeskModel", "order", "[I", true)
  | 13 => ("FaultTreeDeskModel", "on", "[Z", true)
  | 14 => ("FaultTreeDeskModel", "truth", "[Z", true)
  | 15 => ("FaultTreeDeskModel", "causes", "[J", true)
  | 16 => ("FaultTreeDeskModel", "many", "I", false)
  | 17 => ("FaultTreeDeskModel", "ons", "[I", true)
  | _ => ("FaultTreeDeskModel", "offs", "[I", true)
def tq_M : Nat → FieldType := fun k => match k with
  | 0 => .int
  | 1 => .int
  | 2 => .array .int
  | 3 => .array .int
  | 4 => .int
  | 5 => .array .int
  | 6 => .array .int
  | 7 => .array .int
  | 8 => .array .int
  | 9 => .int
  | 10 => .array .boolean
  | 11 => .array .boolean
  | 12 => .array .int
  | 13 => .array .boolean
  | 14 => .array .boolean
  | 15 => .array .long
  | 16 => .int
  | 17 => .array .int
  | _ => .array .int
theorem n_M : ∀ a, a < 19 → ∀ b, b < 19 → a ≠ b → (T_M a).2.1 ≠ (T_M b).2.1 := by decide +kernel
theorem t_M_ok : ∀ k, k < 19 → parseFieldDescriptor (T_M k).2.2.1 = some (tq_M k) := by decide +kernel
theorem la_M_0 : u_lay R_M T_M 0 ∈ WS := ws_t (List.mem_of_getElem? (i := 653) (by decide +kernel)) (by decide +kernel)
theorem la_M_1 : u_lay R_M T_M 1 ∈ WS := ws_t (List.mem_of_getElem? (i := 655) (by decide +kernel)) (by decide +kernel)
theorem la_M_2 : u_lay R_M T_M 2 ∈ WS := ws_t (List.mem_of_getElem? (i := 657) (by decide +kernel)) (by decide +kernel)
theorem la_M_3 : u_lay R_M T_M 3 ∈ WS := ws_t (List.mem_of_getElem? (i := 659) (by decide +kernel)) (by decide +kernel)
theorem la_M_4 : u_lay R_M T_M 4 ∈ WS := ws_t (List.mem_of_getElem? (i := 661) (by decide +kernel)) (by decide +kernel)
theorem la_M_5 : u_lay R_M T_M 5 ∈ WS := ws_t (List.mem_of_getElem? (i := 663) (by decide +kernel)) (by decide +kernel)
theorem la_M_6 : u_lay R_M T_M 6 ∈ WS := ws_t (List.mem_of_getElem? (i := 665) (by decide +kernel)) (by decide +kernel)
theorem la_M_7 : u_lay R_M T_M 7 ∈ WS := ws_t (List.mem_of_getElem? (i := 667) (by decide +kernel)) (by decide +kernel)
theorem la_M_8 : u_lay R_M T_M 8 ∈ WS := ws_t (List.mem_of_getElem? (i := 669) (by decide +kernel)) (by decide +kernel)
theorem la_M_9 : u_lay R_M T_M 9 ∈ WS := ws_t (List.mem_of_getElem? (i := 671) (by decide +kernel)) (by decide +kernel)
theorem la_M_10 : u_lay R_M T_M 10 ∈ WS := ws_t (List.mem_of_getElem? (i := 673) (by decide +kernel)) (by decide +kernel)
theorem la_M_11 : u_lay R_M T_M 11 ∈ WS := ws_t (List.mem_of_getElem? (i := 675) (by decide +kernel)) (by decide +kernel)
theorem la_M_12 : u_lay R_M T_M 12 ∈ WS := ws_t (List.mem_of_getElem? (i := 677) (by decide +kernel)) (by decide +kernel)
theorem la_M_13 : u_lay R_M T_M 13 ∈ WS := ws_t (List.mem_of_getElem? (i := 679) (by decide +kernel)) (by decide +kernel)
theorem la_M_14 : u_lay R_M T_M 14 ∈ WS := ws_t (List.mem_of_getElem? (i := 681) (by decide +kernel)) (by decide +kernel)
theorem la_M_15 : u_lay R_M T_M 15 ∈ WS := ws_t (List.mem_of_getElem? (i := 683) (by decide +kernel)) (by decide +kernel)
theorem la_M_16 : u_lay R_M T_M 16 ∈ WS := ws_t (List.mem_of_getElem? (i := 685) (by decide +kernel)) (by decide +kernel)
theorem la_M_17 : u_lay R_M T_M 17 ∈ WS := ws_t (List.mem_of_getElem? (i := 687) (by decide +kernel)) (by decide +kernel)
theorem la_M_18 : u_lay R_M T_M 18 ∈ WS := ws_t (List.mem_of_getElem? (i := 689) (by decide +kernel)) (by decide +kernel)
theorem la_M : ∀ w ∈ u_ws R_M T_M 19, w ∈ WS := by
  intro w h
  obtain ⟨k, hk, rfl⟩ := List.mem_map.mp h
  have hk := List.mem_range.mp hk
  match k, hk with
  | 0, _ => exact la_M_0
  | 1, _ => exact la_M_1
  | 2, _ => exact la_M_2
  | 3, _ => exact la_M_3
  | 4, _ => exact la_M_4
  | 5, _ => exact la_M_5
  | 6, _ => exact la_M_6
  | 7, _ => exact la_M_7
  | 8, _ => exact la_M_8
  | 9, _ => exact la_M_9
  | 10, _ => exact la_M_10
  | 11, _ => exact la_M_11
  | 12, _ => exact la_M_12
  | 13, _ => exact la_M_13
  | 14, _ => exact la_M_14
  | 15, _ => exact la_M_15
  | 16, _ => exact la_M_16
  | 17, _ => exact la_M_17
  | 18, _ => exact la_M_18
  | k + 19, h => exact absurd h (by omega)
def cl8 : List vw_C := [(R_D, T_D, 3), (R_E, T_E, 3), (R_G, T_G, 5), (R_O, T_O, 1), (R_X, T_X, 5), (R_T, T_T, 5), (R_F, T_F, 9), (R_M, T_M, 19)]
def tabON (j : Nat) : Int64 := match j with
  | 0 => -6148914691236517206
  | 1 => -3689348814741910324
  | 2 => -1085102592571150096
  | 3 => -71777214294589696
  | 4 => -281470681808896
  | _ => -4294967296
def NS : List Cond := [.methodLinkNest "FaultTreeDesk" 11 ⟨"FaultTreeDesk$Events", "<init>", "()V"⟩ "FaultTreeDesk", .fieldLinkNest "FaultTreeDesk$Odds" 27 "FaultTreeDesk$Events" "chances" "[I" "FaultTreeDesk", .fieldLinkNest "FaultTreeDesk" 86 "FaultTreeDesk$Events" "chances" "[I" "FaultTreeDesk", .fieldLinkNest "FaultTreeDesk$Truth" 41 "FaultTreeDesk$Events" "holds" "[I" "FaultTreeDesk", .fieldLinkNest "FaultTreeDesk" 95 "FaultTreeDesk$Events" "holds" "[I" "FaultTreeDesk", .fieldLinkNest "FaultTreeDesk$Odds" 15 "FaultTreeDesk$Events" "count" "I" "FaultTreeDesk", .fieldLinkNest "FaultTreeDesk$Truth" 30 "FaultTreeDesk$Events" "count" "I" "FaultTreeDesk", .fieldLinkNest "FaultTreeDesk" 66 "FaultTreeDesk$Events" "count" "I" "FaultTreeDesk", .methodLinkNest "FaultTreeDesk" 18 ⟨"FaultTreeDesk$Gates", "<init>", "()V"⟩ "FaultTreeDesk", .fieldLinkNest "FaultTreeDesk$Truth" 78 "FaultTreeDesk$Gates" "kinds" "[I" "FaultTreeDesk", .fieldLinkNest "FaultTreeDesk$Truth" 89 "FaultTreeDesk$Gates" "votes" "[I" "FaultTreeDesk", .fieldLinkNest "FaultTreeDesk$Truth" 72 "FaultTreeDesk$Gates" "children" "[I" "FaultTreeDesk", .fieldLinkNest "FaultTreeDesk$Truth" 65 "FaultTreeDesk$Gates" "below" "[I" "FaultTreeDesk", .fieldLinkNest "FaultTreeDesk$Truth" 64 "FaultTreeDesk$Gates" "count" "I" "FaultTreeDesk", .fieldLinkNest "FaultTreeDesk" 102 "FaultTreeDesk$Gates" "count" "I" "FaultTreeDesk", .methodLinkNest "FaultTreeDesk" 25 ⟨"FaultTreeDesk$Truth", "<init>", "()V"⟩ "FaultTreeDesk", .fieldLinkNest "FaultTreeDesk$Terms" 34 "FaultTreeDesk$Truth" "rows" "[[J" "FaultTreeDesk", .fieldLinkNest "FaultTreeDesk$Terms" 31 "FaultTreeDesk$Truth" "words" "I" "FaultTreeDesk", .fieldLinkNest "FaultTreeDesk$Terms" 37 "FaultTreeDesk$Truth" "topCode" "I" "FaultTreeDesk", .methodLinkNest "FaultTreeDesk" 32 ⟨"FaultTreeDesk$Odds", "<init>", "()V"⟩ "FaultTreeDesk", .methodLinkNest "FaultTreeDesk" 39 ⟨"FaultTreeDesk$Diagram", "<init>", "()V"⟩ "FaultTreeDesk", .methodLinkNest "FaultTreeDesk" 46 ⟨"FaultTreeDesk$Terms", "<init>", "()V"⟩ "FaultTreeDesk", .fieldLinkNest "FaultTreeDesk" 177 "FaultTreeDesk$Terms" "count" "I" "FaultTreeDesk", .fieldLinkNest "FaultTreeDesk" 208 "FaultTreeDesk$Terms" "tooMany" "Z" "FaultTreeDesk", .fieldLinkNest "FaultTreeDesk$Truth" 54 "FaultTreeDesk" "ON_IN_WORD" "[J" "FaultTreeDesk", .fieldLinkNest "FaultTreeDesk$Terms" 65 "FaultTreeDesk" "ON_IN_WORD" "[J" "FaultTreeDesk"]
theorem NS_in : ∀ w ∈ NS, w ∈ tables_1 := by decide +kernel
theorem fk_E_9 : Cond.fieldLink R_E 9 (T_E 0).1 (T_E 0).2.1 (T_E 0).2.2.1 ∈ WS := ws_t (List.mem_of_getElem? (i := 34) (by decide +kernel)) (by decide +kernel)
theorem fl_E_9 : av_F R_E WS cl8 9 1 0 := ⟨R_E, T_E, 3, rfl, Nat.le_of_ble_eq_true rfl, la_E, fk_E_9⟩
theorem fk_E_15 : Cond.fieldLink R_E 15 (T_E 1).1 (T_E 1).2.1 (T_E 1).2.2.1 ∈ WS := ws_t (List.mem_of_getElem? (i := 37) (by decide +kernel)) (by decide +kernel)
theorem fl_E_15 : av_F R_E WS cl8 15 1 1 := ⟨R_E, T_E, 3, rfl, Nat.le_of_ble_eq_true rfl, la_E, fk_E_15⟩
theorem fk_E_18 : Cond.fieldLink R_E 18 (T_E 2).1 (T_E 2).2.1 (T_E 2).2.2.1 ∈ WS := ws_t (List.mem_of_getElem? (i := 40) (by decide +kernel)) (by decide +kernel)
theorem fl_E_18 : av_F R_E WS cl8 18 1 2 := ⟨R_E, T_E, 3, rfl, Nat.le_of_ble_eq_true rfl, la_E, fk_E_18⟩
theorem fp_E_18 : av_FP R_E WS cl8 18 1 2 (tq_E 2) := ⟨R_E, T_E, 3, tq_E, rfl, Nat.le_of_ble_eq_true rfl, la_E, fk_E_18, t_E_ok, n_E, rfl, t_E_ok 2 (Nat.le_of_ble_eq_true rfl)⟩
theorem fk_G_9 : Cond.fieldLink R_G 9 (T_G 0).1 (T_G 0).2.1 (T_G 0).2.2.1 ∈ WS := ws_t (List.mem_of_getElem? (i := 58) (by decide +kernel)) (by decide +kernel)
theorem fl_G_9 : av_F R_G WS cl8 9 2 0 := ⟨R_G, T_G, 5, rfl, Nat.le_of_ble_eq_true rfl, la_G, fk_G_9⟩
theorem fk_G_15 : Cond.fieldLink R_G 15 (T_G 1).1 (T_G 1).2.1 (T_G 1).2.2.1 ∈ WS := ws_t (List.mem_of_getElem? (i := 60) (by decide +kernel)) (by decide +kernel)
theorem fl_G_15 : av_F R_G WS cl8 15 2 1 := ⟨R_G, T_G, 5, rfl, Nat.le_of_ble_eq_true rfl, la_G, fk_G_15⟩
theorem fk_G_18 : Cond.fieldLink R_G 18 (T_G 2).1 (T_G 2).2.1 (T_G 2).2.2.1 ∈ WS := ws_t (List.mem_of_getElem? (i := 62) (by decide +kernel)) (by decide +kernel)
theorem fl_G_18 : av_F R_G WS cl8 18 2 2 := ⟨R_G, T_G, 5, rfl, Nat.le_of_ble_eq_true rfl, la_G, fk_G_18⟩
theorem fk_G_21 : Cond.fieldLink R_G 21 (T_G 3).1 (T_G 3).2.1 (T_G 3).2.2.1 ∈ WS := ws_t (List.mem_of_getElem? (i := 64) (by decide +kernel)) (by decide +kernel)
theorem fl_G_21 : av_F R_G WS cl8 21 2 3 := ⟨R_G, T_G, 5, rfl, Nat.le_of_ble_eq_true rfl, la_G, fk_G_21⟩
theorem fk_G_24 : Cond.fieldLink R_G 24 (T_G 4).1 (T_G 4).2.1 (T_G 4).2.2.1 ∈ WS := ws_t (List.mem_of_getElem? (i := 66) (by decide +kernel)) (by decide +kernel)
theorem fl_G_24 : av_F R_G WS cl8 24 2 4 := ⟨R_G, T_G, 5, rfl, Nat.le_of_ble_eq_true rfl, la_G, fk_G_24⟩
theorem fp_G_24 : av_FP R_G WS cl8 24 2 4 (tq_G 4) := ⟨R_G, T_G, 5, tq_G, rfl, Nat.le_of_ble_eq_true rfl, la_G, fk_G_24, t_G_ok, n_G, rfl, t_G_ok 4 (Nat.le_of_ble_eq_true rfl)⟩
theorem fk_T_11 : Cond.fieldLink R_T 11 (T_T 0).1 (T_T 0).2.1 (T_T 0).2.2.1 ∈ WS := ws_t (List.mem_of_getElem? (i := 88) (by decide +kernel)) (by decide +kernel)
theorem fl_T_11 : av_F R_T WS cl8 11 5 0 := ⟨R_T, T_T, 5, rfl, Nat.le_of_ble_eq_true rfl, la_T, fk_T_11⟩
theorem fk_T_16 : Cond.fieldLink R_T 16 (T_T 1).1 (T_T 1).2.1 (T_T 1).2.2.1 ∈ WS := ws_t (List.mem_of_getElem? (i := 90) (by decide +kernel)) (by decide +kernel)
theorem fl_T_16 : av_F R_T WS cl8 16 5 1 := ⟨R_T, T_T, 5, rfl, Nat.le_of_ble_eq_true rfl, la_T, fk_T_16⟩
theorem fk_T_20 : Cond.fieldLink R_T 20 (T_T 2).1 (T_T 2).2.1 (T_T 2).2.2.1 ∈ WS := ws_t (List.mem_of_getElem? (i := 91) (by decide +kernel)) (by decide +kernel)
theorem fl_T_20 : av_F R_T WS cl8 20 5 2 := ⟨R_T, T_T, 5, rfl, Nat.le_of_ble_eq_true rfl, la_T, fk_T_20⟩
theorem fp_T_20 : av_FP R_T WS cl8 20 5 2 (tq_T 2) := ⟨R_T, T_T, 5, tq_T, rfl, Nat.le_of_ble_eq_true rfl, la_T, fk_T_20, t_T_ok, n_T, rfl, t_T_ok 2 (Nat.le_of_ble_eq_true rfl)⟩
theorem fk_T_24 : Cond.fieldLink R_T 24 (T_T 3).1 (T_T 3).2.1 (T_T 3).2.2.1 ∈ WS := ws_t (List.mem_of_getElem? (i := 92) (by decide +kernel)) (by decide +kernel)
theorem fl_T_24 : av_F R_T WS cl8 24 5 3 := ⟨R_T, T_T, 5, rfl, Nat.le_of_ble_eq_true rfl, la_T, fk_T_24⟩
theorem fp_T_24 : av_FP R_T WS cl8 24 5 3 (tq_T 3) := ⟨R_T, T_T, 5, tq_T, rfl, Nat.le_of_ble_eq_true rfl, la_T, fk_T_24, t_T_ok, n_T, rfl, t_T_ok 3 (Nat.le_of_ble_eq_true rfl)⟩
theorem fk_T_27 : Cond.fieldLink R_T 27 (T_T 4).1 (T_T 4).2.1 (T_T 4).2.2.1 ∈ WS := ws_t (List.mem_of_getElem? (i := 94) (by decide +kernel)) (by decide +kernel)
theorem fl_T_27 : av_F R_T WS cl8 27 5 4 := ⟨R_T, T_T, 5, rfl, Nat.le_of_ble_eq_true rfl, la_T, fk_T_27⟩
theorem fp_T_27 : av_FP R_T WS cl8 27 5 4 (tq_T 4) := ⟨R_T, T_T, 5, tq_T, rfl, Nat.le_of_ble_eq_true rfl, la_T, fk_T_27, t_T_ok, n_T, rfl, t_T_ok 4 (Nat.le_of_ble_eq_true rfl)⟩
theorem fk_O_9 : Cond.fieldLink R_O 9 (T_O 0).1 (T_O 0).2.1 (T_O 0).2.2.1 ∈ WS := ws_t (List.mem_of_getElem? (i := 114) (by decide +kernel)) (by decide +kernel)
theorem fl_O_9 : av_F R_O WS cl8 9 3 0 := ⟨R_O, T_O, 1, rfl, Nat.le_of_ble_eq_true rfl, la_O, fk_O_9⟩
theorem fk_D_9 : Cond.fieldLink R_D 9 (T_D 0).1 (T_D 0).2.1 (T_D 0).2.2.1 ∈ WS := ws_t (List.mem_of_getElem? (i := 124) (by decide +kernel)) (by decide +kernel)
theorem fl_D_9 : av_F R_D WS cl8 9 0 0 := ⟨R_D, T_D, 3, rfl, Nat.le_of_ble_eq_true rfl, la_D, fk_D_9⟩
theorem fk_D_15 : Cond.fieldLink R_D 15 (T_D 1).1 (T_D 1).2.1 (T_D 1).2.2.1 ∈ WS := ws_t (List.mem_of_getElem? (i := 125) (by decide +kernel)) (by decide +kernel)
theorem fl_D_15 : av_F R_D WS cl8 15 0 1 := ⟨R_D, T_D, 3, rfl, Nat.le_of_ble_eq_true rfl, la_D, fk_D_15⟩
theorem fk_D_18 : Cond.fieldLink R_D 18 (T_D 2).1 (T_D 2).2.1 (T_D 2).2.2.1 ∈ WS := ws_t (List.mem_of_getElem? (i := 126) (by decide +kernel)) (by decide +kernel)
theorem fl_D_18 : av_F R_D WS cl8 18 0 2 := ⟨R_D, T_D, 3, rfl, Nat.le_of_ble_eq_true rfl, la_D, fk_D_18⟩
theorem fp_D_18 : av_FP R_D WS cl8 18 0 2 (tq_D 2) := ⟨R_D, T_D, 3, tq_D, rfl, Nat.le_of_ble_eq_true rfl, la_D, fk_D_18, t_D_ok, n_D, rfl, t_D_ok 2 (Nat.le_of_ble_eq_true rfl)⟩
theorem fk_X_9 : Cond.fieldLink R_X 9 (T_X 0).1 (T_X 0).2.1 (T_X 0).2.2.1 ∈ WS := ws_t (List.mem_of_getElem? (i := 141) (by decide +kernel)) (by decide +kernel)
theorem fl_X_9 : av_F R_X WS cl8 9 4 0 := ⟨R_X, T_X, 5, rfl, Nat.le_of_ble_eq_true rfl, la_X, fk_X_9⟩
theorem fk_X_17 : Cond.fieldLink R_X 17 (T_X 1).1 (T_X 1).2.1 (T_X 1).2.2.1 ∈ WS := ws_t (List.mem_of_getElem? (i := 142) (by decide +kernel)) (by decide +kernel)
theorem fl_X_17 : av_F R_X WS cl8 17 4 1 := ⟨R_X, T_X, 5, rfl, Nat.le_of_ble_eq_true rfl, la_X, fk_X_17⟩
theorem fk_X_20 : Cond.fieldLink R_X 20 (T_X 2).1 (T_X 2).2.1 (T_X 2).2.2.1 ∈ WS := ws_t (List.mem_of_getElem? (i := 143) (by decide +kernel)) (by decide +kernel)
theorem fl_X_20 : av_F R_X WS cl8 20 4 2 := ⟨R_X, T_X, 5, rfl, Nat.le_of_ble_eq_true rfl, la_X, fk_X_20⟩
theorem fp_X_20 : av_FP R_X WS cl8 20 4 2 (tq_X 2) := ⟨R_X, T_X, 5, tq_X, rfl, Nat.le_of_ble_eq_true rfl, la_X, fk_X_20, t_X_ok, n_X, rfl, t_X_ok 2 (Nat.le_of_ble_eq_true rfl)⟩
theorem fk_X_24 : Cond.fieldLink R_X 24 (T_X 3).1 (T_X 3).2.1 (T_X 3).2.2.1 ∈ WS := ws_t (List.mem_of_getElem? (i := 144) (by decide +kernel)) (by decide +kernel)
theorem fl_X_24 : av_F R_X WS cl8 24 4 3 := ⟨R_X, T_X, 5, rfl, Nat.le_of_ble_eq_true rfl, la_X, fk_X_24⟩
theorem fp_X_24 : av_FP R_X WS cl8 24 4 3 (tq_X 3) := ⟨R_X, T_X, 5, tq_X, rfl, Nat.le_of_ble_eq_true rfl, la_X, fk_X_24, t_X_ok, n_X, rfl, t_X_ok 3 (Nat.le_of_ble_eq_true rfl)⟩
theorem fk_X_27 : Cond.fieldLink R_X 27 (T_X 4).1 (T_X 4).2.1 (T_X 4).2.2.1 ∈ WS := ws_t (List.mem_of_getElem? (i := 146) (by decide +kernel)) (by decide +kernel)
theorem fl_X_27 : av_F R_X WS cl8 27 4 4 := ⟨R_X, T_X, 5, rfl, Nat.le_of_ble_eq_true rfl, la_X, fk_X_27⟩
theorem fp_X_27 : av_FP R_X WS cl8 27 4 4 (tq_X 4) := ⟨R_X, T_X, 5, tq_X, rfl, Nat.le_of_ble_eq_true rfl, la_X, fk_X_27, t_X_ok, n_X, rfl, t_X_ok 4 (Nat.le_of_ble_eq_true rfl)⟩
theorem fk_F_12 : Cond.fieldLink R_F 12 (T_F 0).1 (T_F 0).2.1 (T_F 0).2.2.1 ∈ WS := ws_t (List.mem_of_getElem? (i := 159) (by decide +kernel)) (by decide +kernel)
theorem fl_F_12 : av_F R_F WS cl8 12 6 0 := ⟨R_F, T_F, 9, rfl, Nat.le_of_ble_eq_true rfl, la_F, fk_F_12⟩
theorem fk_F_19 : Cond.fieldLink R_F 19 (T_F 1).1 (T_F 1).2.1 (T_F 1).2.2.1 ∈ WS := ws_t (List.mem_of_getElem? (i := 160) (by decide +kernel)) (by decide +kernel)
theorem fl_F_19 : av_F R_F WS cl8 19 6 1 := ⟨R_F, T_F, 9, rfl, Nat.le_of_ble_eq_true rfl, la_F, fk_F_19⟩
theorem fk_F_26 : Cond.fieldLink R_F 26 (T_F 2).1 (T_F 2).2.1 (T_F 2).2.2.1 ∈ WS := ws_t (List.mem_of_getElem? (i := 161) (by decide +kernel)) (by decide +kernel)
theorem fl_F_26 : av_F R_F WS cl8 26 6 2 := ⟨R_F, T_F, 9, rfl, Nat.le_of_ble_eq_true rfl, la_F, fk_F_26⟩
theorem fk_F_33 : Cond.fieldLink R_F 33 (T_F 3).1 (T_F 3).2.1 (T_F 3).2.2.1 ∈ WS := ws_t (List.mem_of_getElem? (i := 162) (by decide +kernel)) (by decide +kernel)
theorem fl_F_33 : av_F R_F WS cl8 33 6 3 := ⟨R_F, T_F, 9, rfl, Nat.le_of_ble_eq_true rfl, la_F, fk_F_33⟩
theorem fk_F_40 : Cond.fieldLink R_F 40 (T_F 4).1 (T_F 4).2.1 (T_F 4).2.2.1 ∈ WS := ws_t (List.mem_of_getElem? (i := 163) (by decide +kernel)) (by decide +kernel)
theorem fl_F_40 : av_F R_F WS cl8 40 6 4 := ⟨R_F, T_F, 9, rfl, Nat.le_of_ble_eq_true rfl, la_F, fk_F_40⟩
theorem fk_F_47 : Cond.fieldLink R_F 47 (T_F 5).1 (T_F 5).2.1 (T_F 5).2.2.1 ∈ WS := ws_t (List.mem_of_getElem? (i := 164) (by decide +kernel)) (by decide +kernel)
theorem fl_F_47 : av_F R_F WS cl8 47 6 5 := ⟨R_F, T_F, 9, rfl, Nat.le_of_ble_eq_true rfl, la_F, fk_F_47⟩
theorem fk_F_51 : Cond.fieldLink R_F 51 (T_F 6).1 (T_F 6).2.1 (T_F 6).2.2.1 ∈ WS := ws_t (List.mem_of_getElem? (i := 165) (by decide +kernel)) (by decide +kernel)
theorem fl_F_51 : av_F R_F WS cl8 51 6 6 := ⟨R_F, T_F, 9, rfl, Nat.le_of_ble_eq_true rfl, la_F, fk_F_51⟩
theorem fp_F_51 : av_FP R_F WS cl8 51 6 6 (tq_F 6) := ⟨R_F, T_F, 9, tq_F, rfl, Nat.le_of_ble_eq_true rfl, la_F, fk_F_51, t_F_ok, n_F, rfl, t_F_ok 6 (Nat.le_of_ble_eq_true rfl)⟩
theorem fk_F_55 : Cond.fieldLink R_F 55 (T_F 7).1 (T_F 7).2.1 (T_F 7).2.2.1 ∈ WS := ws_t (List.mem_of_getElem? (i := 166) (by decide +kernel)) (by decide +kernel)
theorem fl_F_55 : av_F R_F WS cl8 55 6 7 := ⟨R_F, T_F, 9, rfl, Nat.le_of_ble_eq_true rfl, la_F, fk_F_55⟩
theorem fp_F_55 : av_FP R_F WS cl8 55 6 7 (tq_F 7) := ⟨R_F, T_F, 9, tq_F, rfl, Nat.le_of_ble_eq_true rfl, la_F, fk_F_55, t_F_ok, n_F, rfl, t_F_ok 7 (Nat.le_of_ble_eq_true rfl)⟩
theorem fk_F_59 : Cond.fieldLink R_F 59 (T_F 8).1 (T_F 8).2.1 (T_F 8).2.2.1 ∈ WS := ws_t (List.mem_of_getElem? (i := 167) (by decide +kernel)) (by decide +kernel)
theorem fl_F_59 : av_F R_F WS cl8 59 6 8 := ⟨R_F, T_F, 9, rfl, Nat.le_of_ble_eq_true rfl, la_F, fk_F_59⟩
theorem fp_F_59 : av_FP R_F WS cl8 59 6 8 (tq_F 8) := ⟨R_F, T_F, 9, tq_F, rfl, Nat.le_of_ble_eq_true rfl, la_F, fk_F_59, t_F_ok, n_F, rfl, t_F_ok 8 (Nat.le_of_ble_eq_true rfl)⟩
theorem fk_M_58 : Cond.fieldLink R_M 58 (T_M 0).1 (T_M 0).2.1 (T_M 0).2.2.1 ∈ WS := ws_t (List.mem_of_getElem? (i := 634) (by decide +kernel)) (by decide +kernel)
theorem fl_M_58 : av_F R_M WS cl8 58 7 0 := ⟨R_M, T_M, 19, rfl, Nat.le_of_ble_eq_true rfl, la_M, fk_M_58⟩
theorem fp_M_58 : av_FP R_M WS cl8 58 7 0 (tq_M 0) := ⟨R_M, T_M, 19, tq_M, rfl, Nat.le_of_ble_eq_true rfl, la_M, fk_M_58, t_M_ok, n_M, rfl, t_M_ok 0 (Nat.le_of_ble_eq_true rfl)⟩
theorem fk_M_61 : Cond.fieldLink R_M 61 (T_M 1).1 (T_M 1).2.1 (T_M 1).2.2.1 ∈ WS := ws_t (List.mem_of_getElem? (i := 635) (by decide +kernel)) (by decide +kernel)
theorem fl_M_61 : av_F R_M WS cl8 61 7 1 := ⟨R_M, T_M, 19, rfl, Nat.le_of_ble_eq_true rfl, la_M, fk_M_61⟩
theorem fp_M_61 : av_FP R_M WS cl8 61 7 1 (tq_M 1) := ⟨R_M, T_M, 19, tq_M, rfl, Nat.le_of_ble_eq_true rfl, la_M, fk_M_61, t_M_ok, n_M, rfl, t_M_ok 1 (Nat.le_of_ble_eq_true rfl)⟩
theorem fk_M_7 : Cond.fieldLink R_M 7 (T_M 2).1 (T_M 2).2.1 (T_M 2).2.2.1 ∈ WS := ws_t (List.mem_of_getElem? (i := 636) (by decide +kernel)) (by decide +kernel)
theorem fl_M_7 : av_F R_M WS cl8 7 7 2 := ⟨R_M, T_M, 19, rfl, Nat.le_of_ble_eq_true rfl, la_M, fk_M_7⟩
theorem fk_M_13 : Cond.fieldLink R_M 13 (T_M 3).1 (T_M 3).2.1 (T_M 3).2.2.1 ∈ WS := ws_t (List.mem_of_getElem? (i := 637) (by decide +kernel)) (by decide +kernel)
theorem fl_M_13 : av_F R_M WS cl8 13 7 3 := ⟨R_M, T_M, 19, rfl, Nat.le_of_ble_eq_true rfl, la_M, fk_M_13⟩
theorem fk_M_64 : Cond.fieldLink R_M 64 (T_M 4).1 (T_M 4).2.1 (T_M 4).2.2.1 ∈ WS := ws_t (List.mem_of_getElem? (i := 638) (by decide +kernel)) (by decide +kernel)
theorem fl_M_64 : av_F R_M WS cl8 64 7 4 := ⟨R_M, T_M, 19, rfl, Nat.le_of_ble_eq_true rfl, la_M, fk_M_64⟩
theorem fp_M_64 : av_FP R_M WS cl8 64 7 4 (tq_M 4) := ⟨R_M, T_M, 19, tq_M, rfl, Nat.le_of_ble_eq_true rfl, la_M, fk_M_64, t_M_ok, n_M, rfl, t_M_ok 4 (Nat.le_of_ble_eq_true rfl)⟩
theorem fk_M_16 : Cond.fieldLink R_M 16 (T_M 5).1 (T_M 5).2.1 (T_M 5).2.2.1 ∈ WS := ws_t (List.mem_of_getElem? (i := 639) (by decide +kernel)) (by decide +kernel)
theorem fl_M_16 : av_F R_M WS cl8 16 7 5 := ⟨R_M, T_M, 19, rfl, Nat.le_of_ble_eq_true rfl, la_M, fk_M_16⟩
theorem fk_M_19 : Cond.fieldLink R_M 19 (T_M 6).1 (T_M 6).2.1 (T_M 6).2.2.1 ∈ WS := ws_t (List.mem_of_getElem? (i := 640) (by decide +kernel)) (by decide +kernel)
theorem fl_M_19 : av_F R_M WS cl8 19 7 6 := ⟨R_M, T_M, 19, rfl, Nat.le_of_ble_eq_true rfl, la_M, fk_M_19⟩
theorem fk_M_22 : Cond.fieldLink R_M 22 (T_M 7).1 (T_M 7).2.1 (T_M 7).2.2.1 ∈ WS := ws_t (List.mem_of_getElem? (i := 641) (by decide +kernel)) (by decide +kernel)
theorem fl_M_22 : av_F R_M WS cl8 22 7 7 := ⟨R_M, T_M, 19, rfl, Nat.le_of_ble_eq_true rfl, la_M, fk_M_22⟩
theorem fk_M_25 : Cond.fieldLink R_M 25 (T_M 8).1 (T_M 8).2.1 (T_M 8).2.2.1 ∈ WS := ws_t (List.mem_of_getElem? (i := 642) (by decide +kernel)) (by decide +kernel)
theorem fl_M_25 : av_F R_M WS cl8 25 7 8 := ⟨R_M, T_M, 19, rfl, Nat.le_of_ble_eq_true rfl, la_M, fk_M_25⟩
theorem fk_M_28 : Cond.fieldLink R_M 28 (T_M 9).1 (T_M 9).2.1 (T_M 9).2.2.1 ∈ WS := ws_t (List.mem_of_getElem? (i := 643) (by decide +kernel)) (by decide +kernel)
theorem fl_M_28 : av_F R_M WS cl8 28 7 9 := ⟨R_M, T_M, 19, rfl, Nat.le_of_ble_eq_true rfl, la_M, fk_M_28⟩
theorem fp_M_28 : av_FP R_M WS cl8 28 7 9 (tq_M 9) := ⟨R_M, T_M, 19, tq_M, rfl, Nat.le_of_ble_eq_true rfl, la_M, fk_M_28, t_M_ok, n_M, rfl, t_M_ok 9 (Nat.le_of_ble_eq_true rfl)⟩
theorem fk_M_32 : Cond.fieldLink R_M 32 (T_M 10).1 (T_M 10).2.1 (T_M 10).2.2.1 ∈ WS := ws_t (List.mem_of_getElem? (i := 644) (by decide +kernel)) (by decide +kernel)
theorem fl_M_32 : av_F R_M WS cl8 32 7 10 := ⟨R_M, T_M, 19, rfl, Nat.le_of_ble_eq_true rfl, la_M, fk_M_32⟩
theorem fk_M_36 : Cond.fieldLink R_M 36 (T_M 11).1 (T_M 11).2.1 (T_M 11).2.2.1 ∈ WS := ws_t (List.mem_of_getElem? (i := 645) (by decide +kernel)) (by decide +kernel)
theorem fl_M_36 : av_F R_M WS cl8 36 7 11 := ⟨R_M, T_M, 19, rfl, Nat.le_of_ble_eq_true rfl, la_M, fk_M_36⟩
theorem fk_M_39 : Cond.fieldLink R_M 39 (T_M 12).1 (T_M 12).2.1 (T_M 12).2.2.1 ∈ WS := ws_t (List.mem_of_getElem? (i := 646) (by decide +kernel)) (by decide +kernel)
theorem fl_M_39 : av_F R_M WS cl8 39 7 12 := ⟨R_M, T_M, 19, rfl, Nat.le_of_ble_eq_true rfl, la_M, fk_M_39⟩
theorem fk_M_42 : Cond.fieldLink R_M 42 (T_M 13).1 (T_M 13).2.1 (T_M 13).2.2.1 ∈ WS := ws_t (List.mem_of_getElem? (i := 647) (by decide +kernel)) (by decide +kernel)
theorem fl_M_42 : av_F R_M WS cl8 42 7 13 := ⟨R_M, T_M, 19, rfl, Nat.le_of_ble_eq_true rfl, la_M, fk_M_42⟩
theorem fk_M_45 : Cond.fieldLink R_M 45 (T_M 14).1 (T_M 14).2.1 (T_M 14).2.2.1 ∈ WS := ws_t (List.mem_of_getElem? (i := 648) (by decide +kernel)) (by decide +kernel)
theorem fl_M_45 : av_F R_M WS cl8 45 7 14 := ⟨R_M, T_M, 19, rfl, Nat.le_of_ble_eq_true rfl, la_M, fk_M_45⟩
theorem fk_M_48 : Cond.fieldLink R_M 48 (T_M 15).1 (T_M 15).2.1 (T_M 15).2.2.1 ∈ WS := ws_t (List.mem_of_getElem? (i := 649) (by decide +kernel)) (by decide +kernel)
theorem fl_M_48 : av_F R_M WS cl8 48 7 15 := ⟨R_M, T_M, 19, rfl, Nat.le_of_ble_eq_true rfl, la_M, fk_M_48⟩
theorem fk_M_113 : Cond.fieldLink R_M 113 (T_M 16).1 (T_M 16).2.1 (T_M 16).2.2.1 ∈ WS := ws_t (List.mem_of_getElem? (i := 650) (by decide +kernel)) (by decide +kernel)
theorem fl_M_113 : av_F R_M WS cl8 113 7 16 := ⟨R_M, T_M, 19, rfl, Nat.le_of_ble_eq_true rfl, la_M, fk_M_113⟩
theorem fp_M_113 : av_FP R_M WS cl8 113 7 16 (tq_M 16) := ⟨R_M, T_M, 19, tq_M, rfl, Nat.le_of_ble_eq_true rfl, la_M, fk_M_113, t_M_ok, n_M, rfl, t_M_ok 16 (Nat.le_of_ble_eq_true rfl)⟩
theorem fk_M_52 : Cond.fieldLink R_M 52 (T_M 17).1 (T_M 17).2.1 (T_M 17).2.2.1 ∈ WS := ws_t (List.mem_of_getElem? (i := 651) (by decide +kernel)) (by decide +kernel)
theorem fl_M_52 : av_F R_M WS cl8 52 7 17 := ⟨R_M, T_M, 19, rfl, Nat.le_of_ble_eq_true rfl, la_M, fk_M_52⟩
theorem fk_M_55 : Cond.fieldLink R_M 55 (T_M 18).1 (T_M 18).2.1 (T_M 18).2.2.1 ∈ WS := ws_t (List.mem_of_getElem? (i := 652) (by decide +kernel)) (by decide +kernel)
theorem fl_M_55 : av_F R_M WS cl8 55 7 18 := ⟨R_M, T_M, 19, rfl, Nat.le_of_ble_eq_true rfl, la_M, fk_M_55⟩
theorem fl_O_27 : av_FN R_O "FaultTreeDesk" WS NS cl8 27 1 0 := ⟨R_E, T_E, 3, rfl, Nat.le_of_ble_eq_true rfl, la_E, List.mem_of_getElem? (i := 1) rfl⟩
theorem fl_F_86 : av_FN R_F "FaultTreeDesk" WS NS cl8 86 1 0 := ⟨R_E, T_E, 3, rfl, Nat.le_of_ble_eq_true rfl, la_E, List.mem_of_getElem? (i := 2) rfl⟩
theorem fl_T_41 : av_FN R_T "FaultTreeDesk" WS NS cl8 41 1 1 := ⟨R_E, T_E, 3, rfl, Nat.le_of_ble_eq_true rfl, la_E, List.mem_of_getElem? (i := 3) rfl⟩
theorem fl_F_95 : av_FN R_F "FaultTreeDesk" WS NS cl8 95 1 1 := ⟨R_E, T_E, 3, rfl, Nat.le_of_ble_eq_true rfl, la_E, List.mem_of_getElem? (i := 4) rfl⟩
theorem fl_O_15 : av_FN R_O "FaultTreeDesk" WS NS cl8 15 1 2 := ⟨R_E, T_E, 3, rfl, Nat.le_of_ble_eq_true rfl, la_E, List.mem_of_getElem? (i := 5) rfl⟩
theorem fl_T_30 : av_FN R_T "FaultTreeDesk" WS NS cl8 30 1 2 := ⟨R_E, T_E, 3, rfl, Nat.le_of_ble_eq_true rfl, la_E, List.mem_of_getElem? (i := 6) rfl⟩
theorem fl_F_66 : av_FN R_F "FaultTreeDesk" WS NS cl8 66 1 2 := ⟨R_E, T_E, 3, rfl, Nat.le_of_ble_eq_true rfl, la_E, List.mem_of_getElem? (i := 7) rfl⟩
theorem fl_T_78 : av_FN R_T "FaultTreeDesk" WS NS cl8 78 2 0 := ⟨R_G, T_G, 5, rfl, Nat.le_of_ble_eq_true rfl, la_G, List.mem_of_getElem? (i := 9) rfl⟩
theorem fl_T_89 : av_FN R_T "FaultTreeDesk" WS NS cl8 89 2 1 := ⟨R_G, T_G, 5, rfl, Nat.le_of_ble_eq_true rfl, la_G, List.mem_of_getElem? (i := 10) rfl⟩
theorem fl_T_72 : av_FN R_T "FaultTreeDesk" WS NS cl8 72 2 2 := ⟨R_G, T_G, 5, rfl, Nat.le_of_ble_eq_true rfl, la_G, List.mem_of_getElem? (i := 11) rfl⟩
theorem fl_T_65 : av_FN R_T "FaultTreeDesk" WS NS cl8 65 2 3 := ⟨R_G, T_G, 5, rfl, Nat.le_of_ble_eq_true rfl, la_G, List.mem_of_getElem? (i := 12) rfl⟩
theorem fl_T_64 : av_FN R_T "FaultTreeDesk" WS NS cl8 64 2 4 := ⟨R_G, T_G, 5, rfl, Nat.le_of_ble_eq_true rfl, la_G, List.mem_of_getElem? (i := 13) rfl⟩
theorem fl_F_102 : av_FN R_F "FaultTreeDesk" WS NS cl8 102 2 4 := ⟨R_G, T_G, 5, rfl, Nat.le_of_ble_eq_true rfl, la_G, List.mem_of_getElem? (i := 14) rfl⟩
theorem fl_X_34 : av_FN R_X "FaultTreeDesk" WS NS cl8 34 5 0 := ⟨R_T, T_T, 5, rfl, Nat.le_of_ble_eq_true rfl, la_T, List.mem_of_getElem? (i := 16) rfl⟩
theorem fl_X_31 : av_FN R_X "FaultTreeDesk" WS NS cl8 31 5 3 := ⟨R_T, T_T, 5, rfl, Nat.le_of_ble_eq_true rfl, la_T, List.mem_of_getElem? (i := 17) rfl⟩
theorem fl_X_37 : av_FN R_X "FaultTreeDesk" WS NS cl8 37 5 4 := ⟨R_T, T_T, 5, rfl, Nat.le_of_ble_eq_true rfl, la_T, List.mem_of_getElem? (i := 18) rfl⟩
theorem fl_F_177 : av_FN R_F "FaultTreeDesk" WS NS cl8 177 4 3 := ⟨R_X, T_X, 5, rfl, Nat.le_of_ble_eq_true rfl, la_X, List.mem_of_getElem? (i := 22) rfl⟩
theorem fl_F_208 : av_FN R_F "FaultTreeDesk" WS NS cl8 208 4 4 := ⟨R_X, T_X, 5, rfl, Nat.le_of_ble_eq_true rfl, la_X, List.mem_of_getElem? (i := 23) rfl⟩
theorem st_T : Cond.fieldLinkNest R_T 54 "FaultTreeDesk" "ON_IN_WORD" "[J" "FaultTreeDesk" ∈ NS := List.mem_of_getElem? (i := 24) rfl
theorem st_X : Cond.fieldLinkNest R_X 65 "FaultTreeDesk" "ON_IN_WORD" "[J" "FaultTreeDesk" ∈ NS := List.mem_of_getElem? (i := 25) rfl
theorem in_D : Cond.initialized "FaultTreeDesk$Diagram" ∈ WS := ws_t (List.mem_of_getElem? (i := 6) (by decide +kernel)) (by decide +kernel)
theorem in_E : Cond.initialized "FaultTreeDesk$Events" ∈ WS := ws_t (List.mem_of_getElem? (i := 2) (by decide +kernel)) (by decide +kernel)
theorem in_G : Cond.initialized "FaultTreeDesk$Gates" ∈ WS := ws_t (List.mem_of_getElem? (i := 3) (by decide +kernel)) (by decide +kernel)
theorem in_O : Cond.initialized "FaultTreeDesk$Odds" ∈ WS := ws_t (List.mem_of_getElem? (i := 5) (by decide +kernel)) (by decide +kernel)
theorem in_X : Cond.initialized "FaultTreeDesk$Terms" ∈ WS := ws_t (List.mem_of_getElem? (i := 7) (by decide +kernel)) (by decide +kernel)
theorem in_T : Cond.initialized "FaultTreeDesk$Truth" ∈ WS := ws_t (List.mem_of_getElem? (i := 4) (by decide +kernel)) (by decide +kernel)
theorem in_F : Cond.initialized "FaultTreeDesk" ∈ WS := ws_t (List.mem_of_getElem? (i := 1) (by decide +kernel)) (by decide +kernel)
theorem in_M : Cond.initialized "FaultTreeDeskModel" ∈ WS := ws_t (List.mem_of_getElem? (i := 8) (by decide +kernel)) (by decide +kernel)
theorem in_L : Cond.initialized "FaultTreeDeskLaw" ∈ WS := ws_t (List.mem_of_getElem? (i := 0) (by decide +kernel)) (by decide +kernel)
theorem in_JI : Cond.initialized "java/lang/Integer" ∈ WS := ws_t (List.mem_of_getElem? (i := 14) (by decide +kernel)) (by decide +kernel)
theorem in_JL : Cond.initialized "java/lang/Long" ∈ WS := ws_t (List.mem_of_getElem? (i := 17) (by decide +kernel)) (by decide +kernel)
theorem in_JM : Cond.initialized "java/lang/Math" ∈ WS := ws_t (List.mem_of_getElem? (i := 16) (by decide +kernel)) (by decide +kernel)
theorem cc_JI_265 : Cond.constant "java/lang/Integer" 265 (1431655765 : Int32) ∈ WS := ws_t (List.mem_of_getElem? (i := 364) (by decide +kernel)) (by decide +kernel)
theorem cc_JI_266 : Cond.constant "java/lang/Integer" 266 (858993459 : Int32) ∈ WS := ws_t (List.mem_of_getElem? (i := 365) (by decide +kernel)) (by decide +kernel)
theorem cc_JI_267 : Cond.constant "java/lang/Integer" 267 (252645135 : Int32) ∈ WS := ws_t (List.mem_of_getElem? (i := 366) (by decide +kernel)) (by decide +kernel)
theorem cl_T_52 : Cond.constantLong "FaultTreeDesk$Truth" 52 (-1 : Int64) ∈ WS := ws_t (List.mem_of_getElem? (i := 430) (by decide +kernel)) (by decide +kernel)
theorem cl_O_31 : Cond.constantLong "FaultTreeDesk$Odds" 31 (10 : Int64) ∈ WS := ws_t (List.mem_of_getElem? (i := 482) (by decide +kernel)) (by decide +kernel)
theorem cl_X_81 : Cond.constantLong "FaultTreeDesk$Terms" 81 (-1 : Int64) ∈ WS := ws_t (List.mem_of_getElem? (i := 534) (by decide +kernel)) (by decide +kernel)
theorem cl_JL_314 : Cond.constantLong "java/lang/Long" 314 (6148914691236517205 : Int64) ∈ WS := ws_t (List.mem_of_getElem? (i := 551) (by decide +kernel)) (by decide +kernel)
theorem cl_JL_316 : Cond.constantLong "java/lang/Long" 316 (3689348814741910323 : Int64) ∈ WS := ws_t (List.mem_of_getElem? (i := 552) (by decide +kernel)) (by decide +kernel)
theorem cl_JL_318 : Cond.constantLong "java/lang/Long" 318 (1085102592571150095 : Int64) ∈ WS := ws_t (List.mem_of_getElem? (i := 553) (by decide +kernel)) (by decide +kernel)
theorem cl_M_97 : Cond.constantLong "FaultTreeDeskModel" 97 (10 : Int64) ∈ WS := ws_t (List.mem_of_getElem? (i := 769) (by decide +kernel)) (by decide +kernel)
theorem cl_M_126 : Cond.constantLong "FaultTreeDeskModel" 126 (-1 : Int64) ∈ WS := ws_t (List.mem_of_getElem? (i := 809) (by decide +kernel)) (by decide +kernel)
abbrev b_F_init : ByteArray := prog_1_method_1_code
def y_F_init : MethodName := ⟨"FaultTreeDesk", "<init>", "()V"⟩
def w_F_init : List Cond := Cond.code y_F_init b_F_init 1 none :: WS
set_option maxRecDepth 100000 in
theorem co_F_init : Cond.code y_F_init b_F_init 1 none ∈ WS := ws_t (List.mem_of_getElem? (i := 24) rfl) rfl
theorem im_F_init : Cond.instanceMethod y_F_init ∈ WS := ws_t (List.mem_of_getElem? (i := 23) (by decide +kernel)) (by decide +kernel)
abbrev b_E_init : ByteArray := prog_3_method_1_code
def y_E_init : MethodName := ⟨"FaultTreeDesk$Events", "<init>", "()V"⟩
def w_E_init : List Cond := Cond.code y_E_init b_E_init 1 none :: WS
set_option maxRecDepth 100000 in
theorem co_E_init : Cond.code y_E_init b_E_init 1 none ∈ WS := ws_t (List.mem_of_getElem? (i := 32) rfl) rfl
theorem im_E_init : Cond.instanceMethod y_E_init ∈ WS := ws_t (List.mem_of_getElem? (i := 31) (by decide +kernel)) (by decide +kernel)
abbrev b_G_init : ByteArray := prog_4_method_1_code
def y_G_init : MethodName := ⟨"FaultTreeDesk$Gates", "<init>", "()V"⟩
def w_G_init : List Cond := Cond.code y_G_init b_G_init 1 none :: WS
set_option maxRecDepth 100000 in
theorem co_G_init : Cond.code y_G_init b_G_init 1 none ∈ WS := ws_t (List.mem_of_getElem? (i := 56) rfl) rfl
theorem im_G_init : Cond.instanceMethod y_G_init ∈ WS := ws_t (List.mem_of_getElem? (i := 55) (by decide +kernel)) (by decide +kernel)
abbrev b_T_init : ByteArray := prog_7_method_1_code
def y_T_init : MethodName := ⟨"FaultTreeDesk$Truth", "<init>", "()V"⟩
def w_T_init : List Cond := Cond.code y_T_init b_T_init 1 none :: WS
set_option maxRecDepth 100000 in
theorem co_T_init : Cond.code y_T_init b_T_init 1 none ∈ WS := ws_t (List.mem_of_getElem? (i := 84) rfl) rfl
theorem im_T_init : Cond.instanceMethod y_T_init ∈ WS := ws_t (List.mem_of_getElem? (i := 83) (by decide +kernel)) (by decide +kernel)
abbrev b_O_init : ByteArray := prog_5_method_1_code
def y_O_init : MethodName := ⟨"FaultTreeDesk$Odds", "<init>", "()V"⟩
def w_O_init : List Cond := Cond.code y_O_init b_O_init 1 none :: WS
set_option maxRecDepth 100000 in
theorem co_O_init : Cond.code y_O_init b_O_init 1 none ∈ WS := ws_t (List.mem_of_getElem? (i := 112) rfl) rfl
theorem im_O_init : Cond.instanceMethod y_O_init ∈ WS := ws_t (List.mem_of_getElem? (i := 111) (by decide +kernel)) (by decide +kernel)
abbrev b_D_init : ByteArray := prog_2_method_1_code
def y_D_init : MethodName := ⟨"FaultTreeDesk$Diagram", "<init>", "()V"⟩
def w_D_init : List Cond := Cond.code y_D_init b_D_init 1 none :: WS
set_option maxRecDepth 100000 in
theorem co_D_init : Cond.code y_D_init b_D_init 1 none ∈ WS := ws_t (List.mem_of_getElem? (i := 122) rfl) rfl
theorem im_D_init : Cond.instanceMethod y_D_init ∈ WS := ws_t (List.mem_of_getElem? (i := 121) (by decide +kernel)) (by decide +kernel)
abbrev b_X_init : ByteArray := prog_6_method_1_code
def y_X_init : MethodName := ⟨"FaultTreeDesk$Terms", "<init>", "()V"⟩
def w_X_init : List Cond := Cond.code y_X_init b_X_init 1 none :: WS
set_option maxRecDepth 100000 in
theorem co_X_init : Cond.code y_X_init b_X_init 1 none ∈ WS := ws_t (List.mem_of_getElem? (i := 138) rfl) rfl
theorem im_X_init : Cond.instanceMethod y_X_init ∈ WS := ws_t (List.mem_of_getElem? (i := 137) (by decide +kernel)) (by decide +kernel)
abbrev b_F_event : ByteArray := prog_1_method_2_code
def y_F_event : MethodName := ⟨"FaultTreeDesk", "event", "(I)I"⟩
def w_F_event : List Cond := Cond.code y_F_event b_F_event 2 (some .int) :: WS
set_option maxRecDepth 100000 in
theorem co_F_event : Cond.code y_F_event b_F_event 2 (some .int) ∈ WS := ws_t (List.mem_of_getElem? (i := 195) rfl) rfl
theorem im_F_event : Cond.instanceMethod y_F_event ∈ WS := ws_t (List.mem_of_getElem? (i := 193) (by decide +kernel)) (by decide +kernel)
theorem se_F_event : Cond.selects "FaultTreeDesk" y_F_event y_F_event ∈ WS := ws_t (List.mem_of_getElem? (i := 194) (by decide +kernel)) (by decide +kernel)
theorem cd_F_event : y_F_event.cls = R_F ∧ y_F_event.cls ≠ "java/lang/invoke/MethodHandle" ∧ y_F_event.cls ≠ "java/lang/invoke/VarHandle" ∧ (parseMethodDescriptor y_F_event.desc).map (fun d => d.parameters.length) = some 1 := by decide +kernel
abbrev b_F_needChance : ByteArray := prog_1_method_17_code
def y_F_needChance : MethodName := ⟨"FaultTreeDesk", "needChance", "(I)V"⟩
def w_F_needChance : List Cond := Cond.code y_F_needChance b_F_needChance 2 none :: WS
set_option maxRecDepth 100000 in
theorem co_F_needChance : Cond.code y_F_needChance b_F_needChance 2 none ∈ WS := ws_t (List.mem_of_getElem? (i := 199) rfl) rfl
theorem im_F_needChance : Cond.instanceMethod y_F_needChance ∈ WS := ws_t (List.mem_of_getElem? (i := 198) (by decide +kernel)) (by decide +kernel)
theorem se_F_needChance : Cond.selects "FaultTreeDesk" y_F_needChance y_F_needChance ∈ WS := ws_p (List.mem_of_getElem? (i := 0) (by decide +kernel)) (by decide +kernel)
theorem cd_F_needChance : y_F_needChance.cls = R_F ∧ y_F_needChance.cls ≠ "java/lang/invoke/MethodHandle" ∧ y_F_needChance.cls ≠ "java/lang/invoke/VarHandle" ∧ (parseMethodDescriptor y_F_needChance.desc).map (fun d => d.parameters.length) = some 1 := by decide +kernel
abbrev b_F_forgetAnswers : ByteArray := prog_1_method_23_code
def y_F_forgetAnswers : MethodName := ⟨"FaultTreeDesk", "forgetAnswers", "()V"⟩
def w_F_forgetAnswers : List Cond := Cond.code y_F_forgetAnswers b_F_forgetAnswers 1 none :: WS
set_option maxRecDepth 100000 in
theorem co_F_forgetAnswers : Cond.code y_F_forgetAnswers b_F_forgetAnswers 1 none ∈ WS := ws_t (List.mem_of_getElem? (i := 288) rfl) rfl
theorem im_F_forgetAnswers : Cond.instanceMethod y_F_forgetAnswers ∈ WS := ws_t (List.mem_of_getElem? (i := 287) (by decide +kernel)) (by decide +kernel)
theorem se_F_forgetAnswers : Cond.selects "FaultTreeDesk" y_F_forgetAnswers y_F_forgetAnswers ∈ WS := ws_p (List.mem_of_getElem? (i := 2) (by decide +kernel)) (by decide +kernel)
theorem cd_F_forgetAnswers : y_F_forgetAnswers.cls = R_F ∧ y_F_forgetAnswers.cls ≠ "java/lang/invoke/MethodHandle" ∧ y_F_forgetAnswers.cls ≠ "java/lang/invoke/VarHandle" ∧ (parseMethodDescriptor y_F_forgetAnswers.desc).map (fun d => d.parameters.length) = some 0 := by decide +kernel
abbrev b_E_add : ByteArray := prog_3_method_3_code
def y_E_add : MethodName := ⟨"FaultTreeDesk$Events", "add", "(I)I"⟩
def w_E_add : List Cond := Cond.code y_E_add b_E_add 2 (some .int) :: WS
set_option maxRecDepth 100000 in
theorem co_E_add : Cond.code y_E_add b_E_add 2 (some .int) ∈ WS := ws_t (List.mem_of_getElem? (i := 292) rfl) rfl
theorem im_E_add : Cond.instanceMethod y_E_add ∈ WS := ws_t (List.mem_of_getElem? (i := 290) (by decide +kernel)) (by decide +kernel)
theorem se_E_add : Cond.selects "FaultTreeDesk$Events" y_E_add y_E_add ∈ WS := ws_t (List.mem_of_getElem? (i := 291) (by decide +kernel)) (by decide +kernel)
theorem cd_E_add : y_E_add.cls = R_E ∧ y_E_add.cls ≠ "java/lang/invoke/MethodHandle" ∧ y_E_add.cls ≠ "java/lang/invoke/VarHandle" ∧ (parseMethodDescriptor y_E_add.desc).map (fun d => d.parameters.length) = some 1 := by decide +kernel
abbrev b_F_chance : ByteArray := prog_1_method_3_code
def y_F_chance : MethodName := ⟨"FaultTreeDesk", "chance", "(II)I"⟩
def w_F_chance : List Cond := Cond.code y_F_chance b_F_chance 4 (some .int) :: WS
set_option maxRecDepth 100000 in
theorem co_F_chance : Cond.code y_F_chance b_F_chance 4 (some .int) ∈ WS := ws_t (List.mem_of_getElem? (i := 299) rfl) rfl
theorem im_F_chance : Cond.instanceMethod y_F_chance ∈ WS := ws_t (List.mem_of_getElem? (i := 297) (by decide +kernel)) (by decide +kernel)
theorem se_F_chance : Cond.selects "FaultTreeDesk" y_F_chance y_F_chance ∈ WS := ws_t (List.mem_of_getElem? (i := 298) (by decide +kernel)) (by decide +kernel)
theorem cd_F_chance : y_F_chance.cls = R_F ∧ y_F_chance.cls ≠ "java/lang/invoke/MethodHandle" ∧ y_F_chance.cls ≠ "java/lang/invoke/VarHandle" ∧ (parseMethodDescriptor y_F_chance.desc).map (fun d => d.parameters.length) = some 2 := by decide +kernel
abbrev b_F_needEvent : ByteArray := prog_1_method_18_code
def y_F_needEvent : MethodName := ⟨"FaultTreeDesk", "needEvent", "(I)V"⟩
def w_F_needEvent : List Cond := Cond.code y_F_needEvent b_F_needEvent 2 none :: WS
set_option maxRecDepth 100000 in
theorem co_F_needEvent : Cond.code y_F_needEvent b_F_needEvent 2 none ∈ WS := ws_t (List.mem_of_getElem? (i := 303) rfl) rfl
theorem im_F_needEvent : Cond.instanceMethod y_F_needEvent ∈ WS := ws_t (List.mem_of_getElem? (i := 302) (by decide +kernel)) (by decide +kernel)
theorem se_F_needEvent : Cond.selects "FaultTreeDesk" y_F_needEvent y_F_needEvent ∈ WS := ws_p (List.mem_of_getElem? (i := 3) (by decide +kernel)) (by decide +kernel)
theorem cd_F_needEvent : y_F_needEvent.cls = R_F ∧ y_F_needEvent.cls ≠ "java/lang/invoke/MethodHandle" ∧ y_F_needEvent.cls ≠ "java/lang/invoke/VarHandle" ∧ (parseMethodDescriptor y_F_needEvent.desc).map (fun d => d.parameters.length) = some 1 := by decide +kernel
abbrev b_E_has : ByteArray := prog_3_method_2_code
def y_E_has : MethodName := ⟨"FaultTreeDesk$Events", "has", "(I)Z"⟩
def w_E_has : List Cond := Cond.code y_E_has b_E_has 2 (some .boolean) :: WS
set_option maxRecDepth 100000 in
theorem co_E_has : Cond.code y_E_has b_E_has 2 (some .boolean) ∈ WS := ws_t (List.mem_of_getElem? (i := 307) rfl) rfl
theorem im_E_has : Cond.instanceMethod y_E_has ∈ WS := ws_t (List.mem_of_getElem? (i := 305) (by decide +kernel)) (by decide +kernel)
theorem se_E_has : Cond.selects "FaultTreeDesk$Events" y_E_has y_E_has ∈ WS := ws_t (List.mem_of_getElem? (i := 306) (by decide +kernel)) (by decide +kernel)
theorem cd_E_has : y_E_has.cls = R_E ∧ y_E_has.cls ≠ "java/lang/invoke/MethodHandle" ∧ y_E_has.cls ≠ "java/lang/invoke/VarHandle" ∧ (parseMethodDescriptor y_E_has.desc).map (fun d => d.parameters.length) = some 1 := by decide +kernel
abbrev b_F_hold : ByteArray := prog_1_method_4_code
def y_F_hold : MethodName := ⟨"FaultTreeDesk", "hold", "(II)I"⟩
def w_F_hold : List Cond := Cond.code y_F_hold b_F_hold 4 (some .int) :: WS
set_option maxRecDepth 100000 in
theorem co_F_hold : Cond.code y_F_hold b_F_hold 4 (some .int) ∈ WS := ws_t (List.mem_of_getElem? (i := 315) rfl) rfl
theorem im_F_hold : Cond.instanceMethod y_F_hold ∈ WS := ws_t (List.mem_of_getElem? (i := 313) (by decide +kernel)) (by decide +kernel)
theorem se_F_hold : Cond.selects "FaultTreeDesk" y_F_hold y_F_hold ∈ WS := ws_t (List.mem_of_getElem? (i := 314) (by decide +kernel)) (by decide +kernel)
theorem cd_F_hold : y_F_hold.cls = R_F ∧ y_F_hold.cls ≠ "java/lang/invoke/MethodHandle" ∧ y_F_hold.cls ≠ "java/lang/invoke/VarHandle" ∧ (parseMethodDescriptor y_F_hold.desc).map (fun d => d.parameters.length) = some 2 := by decide +kernel
abbrev b_F_gate : ByteArray := prog_1_method_5_code
def y_F_gate : MethodName := ⟨"FaultTreeDesk", "gate", "(II)I"⟩
def w_F_gate : List Cond := Cond.code y_F_gate b_F_gate 3 (some .int) :: WS
set_option maxRecDepth 100000 in
theorem co_F_gate : Cond.code y_F_gate b_F_gate 3 (some .int) ∈ WS := ws_t (List.mem_of_getElem? (i := 323) rfl) rfl
theorem im_F_gate : Cond.instanceMethod y_F_gate ∈ WS := ws_t (List.mem_of_getElem? (i := 321) (by decide +kernel)) (by decide +kernel)
theorem se_F_gate : Cond.selects "FaultTreeDesk" y_F_gate y_F_gate ∈ WS := ws_t (List.mem_of_getElem? (i := 322) (by decide +kernel)) (by decide +kernel)
theorem cd_F_gate : y_F_gate.cls = R_F ∧ y_F_gate.cls ≠ "java/lang/invoke/MethodHandle" ∧ y_F_gate.cls ≠ "java/lang/invoke/VarHandle" ∧ (parseMethodDescriptor y_F_gate.desc).map (fun d => d.parameters.length) = some 2 := by decide +kernel
abbrev b_G_add : ByteArray := prog_4_method_4_code
def y_G_add : MethodName := ⟨"FaultTreeDesk$Gates", "add", "(II)I"⟩
def w_G_add : List Cond := Cond.code y_G_add b_G_add 3 (some .int) :: WS
set_option maxRecDepth 100000 in
theorem co_G_add : Cond.code y_G_add b_G_add 3 (some .int) ∈ WS := ws_t (List.mem_of_getElem? (i := 330) rfl) rfl
theorem im_G_add : Cond.instanceMethod y_G_add ∈ WS := ws_t (List.mem_of_getElem? (i := 328) (by decide +kernel)) (by decide +kernel)
theorem se_G_add : Cond.selects "FaultTreeDesk$Gates" y_G_add y_G_add ∈ WS := ws_t (List.mem_of_getElem? (i := 329) (by decide +kernel)) (by decide +kernel)
theorem cd_G_add : y_G_add.cls = R_G ∧ y_G_add.cls ≠ "java/lang/invoke/MethodHandle" ∧ y_G_add.cls ≠ "java/lang/invoke/VarHandle" ∧ (parseMethodDescriptor y_G_add.desc).map (fun d => d.parameters.length) = some 2 := by decide +kernel
abbrev b_F_input : ByteArray := prog_1_method_6_code
def y_F_input : MethodName := ⟨"FaultTreeDesk", "input", "(II)I"⟩
def w_F_input : List Cond := Cond.code y_F_input b_F_input 3 (some .int) :: WS
set_option maxRecDepth 100000 in
theorem co_F_input : Cond.code y_F_input b_F_input 3 (some .int) ∈ WS := ws_t (List.mem_of_getElem? (i := 338) rfl) rfl
theorem im_F_input : Cond.instanceMethod y_F_input ∈ WS := ws_t (List.mem_of_getElem? (i := 336) (by decide +kernel)) (by decide +kernel)
theorem se_F_input : Cond.selects "FaultTreeDesk" y_F_input y_F_input ∈ WS := ws_t (List.mem_of_getElem? (i := 337) (by decide +kernel)) (by decide +kernel)
theorem cd_F_input : y_F_input.cls = R_F ∧ y_F_input.cls ≠ "java/lang/invoke/MethodHandle" ∧ y_F_input.cls ≠ "java/lang/invoke/VarHandle" ∧ (parseMethodDescriptor y_F_input.desc).map (fun d => d.parameters.length) = some 2 := by decide +kernel
abbrev b_F_needGate : ByteArray := prog_1_method_19_code
def y_F_needGate : MethodName := ⟨"FaultTreeDesk", "needGate", "(I)V"⟩
def w_F_needGate : List Cond := Cond.code y_F_needGate b_F_needGate 2 none :: WS
set_option maxRecDepth 100000 in
theorem co_F_needGate : Cond.code y_F_needGate b_F_needGate 2 none ∈ WS := ws_t (List.mem_of_getElem? (i := 342) rfl) rfl
theorem im_F_needGate : Cond.instanceMethod y_F_needGate ∈ WS := ws_t (List.mem_of_getElem? (i := 341) (by decide +kernel)) (by decide +kernel)
theorem se_F_needGate : Cond.selects "FaultTreeDesk" y_F_needGate y_F_needGate ∈ WS := ws_p (List.mem_of_getElem? (i := 4) (by decide +kernel)) (by decide +kernel)
theorem cd_F_needGate : y_F_needGate.cls = R_F ∧ y_F_needGate.cls ≠ "java/lang/invoke/MethodHandle" ∧ y_F_needGate.cls ≠ "java/lang/invoke/VarHandle" ∧ (parseMethodDescriptor y_F_needGate.desc).map (fun d => d.parameters.length) = some 1 := by decide +kernel
abbrev b_G_has : ByteArray := prog_4_method_2_code
def y_G_has : MethodName := ⟨"FaultTreeDesk$Gates", "has", "(I)Z"⟩
def w_G_has : List Cond := Cond.code y_G_has b_G_has 2 (some .boolean) :: WS
set_option maxRecDepth 100000 in
theorem co_G_has : Cond.code y_G_has b_G_has 2 (some .boolean) ∈ WS := ws_t (List.mem_of_getElem? (i := 346) rfl) rfl
theorem im_G_has : Cond.instanceMethod y_G_has ∈ WS := ws_t (List.mem_of_getElem? (i := 344) (by decide +kernel)) (by decide +kernel)
theorem se_G_has : Cond.selects "FaultTreeDesk$Gates" y_G_has y_G_has ∈ WS := ws_t (List.mem_of_getElem? (i := 345) (by decide +kernel)) (by decide +kernel)
theorem cd_G_has : y_G_has.cls = R_G ∧ y_G_has.cls ≠ "java/lang/invoke/MethodHandle" ∧ y_G_has.cls ≠ "java/lang/invoke/VarHandle" ∧ (parseMethodDescriptor y_G_has.desc).map (fun d => d.parameters.length) = some 1 := by decide +kernel
abbrev b_G_hasCode : ByteArray := prog_4_method_3_code
def y_G_hasCode : MethodName := ⟨"FaultTreeDesk$Gates", "hasCode", "(I)Z"⟩
def w_G_hasCode : List Cond := Cond.code y_G_hasCode b_G_hasCode 2 (some .boolean) :: WS
set_option maxRecDepth 100000 in
theorem co_G_hasCode : Cond.code y_G_hasCode b_G_hasCode 2 (some .boolean) ∈ WS := ws_t (List.mem_of_getElem? (i := 351) rfl) rfl
theorem im_G_hasCode : Cond.instanceMethod y_G_hasCode ∈ WS := ws_t (List.mem_of_getElem? (i := 349) (by decide +kernel)) (by decide +kernel)
theorem se_G_hasCode : Cond.selects "FaultTreeDesk$Gates" y_G_hasCode y_G_hasCode ∈ WS := ws_t (List.mem_of_getElem? (i := 350) (by decide +kernel)) (by decide +kernel)
theorem cd_G_hasCode : y_G_hasCode.cls = R_G ∧ y_G_hasCode.cls ≠ "java/lang/invoke/MethodHandle" ∧ y_G_hasCode.cls ≠ "java/lang/invoke/VarHandle" ∧ (parseMethodDescriptor y_G_hasCode.desc).map (fun d => d.parameters.length) = some 1 := by decide +kernel
abbrev b_G_isChild : ByteArray := prog_4_method_5_code
def y_G_isChild : MethodName := ⟨"FaultTreeDesk$Gates", "isChild", "(II)Z"⟩
def w_G_isChild : List Cond := Cond.code y_G_isChild b_G_isChild 3 (some .boolean) :: WS
set_option maxRecDepth 100000 in
theorem co_G_isChild : Cond.code y_G_isChild b_G_isChild 3 (some .boolean) ∈ WS := ws_t (List.mem_of_getElem? (i := 356) rfl) rfl
theorem im_G_isChild : Cond.instanceMethod y_G_isChild ∈ WS := ws_t (List.mem_of_getElem? (i := 354) (by decide +kernel)) (by decide +kernel)
theorem se_G_isChild : Cond.selects "FaultTreeDesk$Gates" y_G_isChild y_G_isChild ∈ WS := ws_t (List.mem_of_getElem? (i := 355) (by decide +kernel)) (by decide +kernel)
theorem cd_G_isChild : y_G_isChild.cls = R_G ∧ y_G_isChild.cls ≠ "java/lang/invoke/MethodHandle" ∧ y_G_isChild.cls ≠ "java/lang/invoke/VarHandle" ∧ (parseMethodDescriptor y_G_isChild.desc).map (fun d => d.parameters.length) = some 2 := by decide +kernel
abbrev b_G_isFull : ByteArray := prog_4_method_6_code
def y_G_isFull : MethodName := ⟨"FaultTreeDesk$Gates", "isFull", "(I)Z"⟩
def w_G_isFull : List Cond := Cond.code y_G_isFull b_G_isFull 3 (some .boolean) :: WS
set_option maxRecDepth 100000 in
theorem co_G_isFull : Cond.code y_G_isFull b_G_isFull 3 (some .boolean) ∈ WS := ws_t (List.mem_of_getElem? (i := 360) rfl) rfl
theorem im_G_isFull : Cond.instanceMethod y_G_isFull ∈ WS := ws_t (List.mem_of_getElem? (i := 358) (by decide +kernel)) (by decide +kernel)
theorem se_G_isFull : Cond.selects "FaultTreeDesk$Gates" y_G_isFull y_G_isFull ∈ WS := ws_t (List.mem_of_getElem? (i := 359) (by decide +kernel)) (by decide +kernel)
theorem cd_G_isFull : y_G_isFull.cls = R_G ∧ y_G_isFull.cls ≠ "java/lang/invoke/MethodHandle" ∧ y_G_isFull.cls ≠ "java/lang/invoke/VarHandle" ∧ (parseMethodDescriptor y_G_isFull.desc).map (fun d => d.parameters.length) = some 1 := by decide +kernel
abbrev b_JI_bitCount : ByteArray := prog_14_method_49_code
def y_JI_bitCount : MethodName := ⟨"java/lang/Integer", "bitCount", "(I)I"⟩
def w_JI_bitCount : List Cond := Cond.code y_JI_bitCount b_JI_bitCount 1 (some .int) :: WS
set_option maxRecDepth 100000 in
theorem co_JI_bitCount : Cond.code y_JI_bitCount b_JI_bitCount 1 (some .int) ∈ WS := ws_t (List.mem_of_getElem? (i := 363) rfl) rfl
theorem sm_JI_bitCount : Cond.static y_JI_bitCount ∈ WS := ws_t (List.mem_of_getElem? (i := 362) (by decide +kernel)) (by decide +kernel)
theorem ce_JI_bitCount : y_JI_bitCount.cls ≠ "java/lang/invoke/MethodHandle" ∧ y_JI_bitCount.cls ≠ "java/lang/invoke/VarHandle" ∧ (parseMethodDescriptor y_JI_bitCount.desc).map (fun d => d.parameters.length) = some 1 := by decide +kernel
abbrev b_G_wouldLoop : ByteArray := prog_4_method_7_code
def y_G_wouldLoop : MethodName := ⟨"FaultTreeDesk$Gates", "wouldLoop", "(II)Z"⟩
def w_G_wouldLoop : List Cond := Cond.code y_G_wouldLoop b_G_wouldLoop 3 (some .boolean) :: WS
set_option maxRecDepth 100000 in
theorem co_G_wouldLoop : Cond.code y_G_wouldLoop b_G_wouldLoop 3 (some .boolean) ∈ WS := ws_t (List.mem_of_getElem? (i := 371) rfl) rfl
theorem im_G_wouldLoop : Cond.instanceMethod y_G_wouldLoop ∈ WS := ws_t (List.mem_of_getElem? (i := 369) (by decide +kernel)) (by decide +kernel)
theorem se_G_wouldLoop : Cond.selects "FaultTreeDesk$Gates" y_G_wouldLoop y_G_wouldLoop ∈ WS := ws_t (List.mem_of_getElem? (i := 370) (by decide +kernel)) (by decide +kernel)
theorem cd_G_wouldLoop : y_G_wouldLoop.cls = R_G ∧ y_G_wouldLoop.cls ≠ "java/lang/invoke/MethodHandle" ∧ y_G_wouldLoop.cls ≠ "java/lang/invoke/VarHandle" ∧ (parseMethodDescriptor y_G_wouldLoop.desc).map (fun d => d.parameters.length) = some 2 := by decide +kernel
abbrev b_G_withBelow : ByteArray := prog_4_method_9_code
def y_G_withBelow : MethodName := ⟨"FaultTreeDesk$Gates", "withBelow", "(I)I"⟩
def w_G_withBelow : List Cond := Cond.code y_G_withBelow b_G_withBelow 2 (some .int) :: WS
set_option maxRecDepth 100000 in
theorem co_G_withBelow : Cond.code y_G_withBelow b_G_withBelow 2 (some .int) ∈ WS := ws_t (List.mem_of_getElem? (i := 375) rfl) rfl
theorem im_G_withBelow : Cond.instanceMethod y_G_withBelow ∈ WS := ws_t (List.mem_of_getElem? (i := 373) (by decide +kernel)) (by decide +kernel)
theorem se_G_withBelow : Cond.selects "FaultTreeDesk$Gates" y_G_withBelow y_G_withBelow ∈ WS := ws_t (List.mem_of_getElem? (i := 374) (by decide +kernel)) (by decide +kernel)
theorem cd_G_withBelow : y_G_withBelow.cls = R_G ∧ y_G_withBelow.cls ≠ "java/lang/invoke/MethodHandle" ∧ y_G_withBelow.cls ≠ "java/lang/invoke/VarHandle" ∧ (parseMethodDescriptor y_G_withBelow.desc).map (fun d => d.parameters.length) = some 1 := by decide +kernel
abbrev b_G_join : ByteArray := prog_4_method_8_code
def y_G_join : MethodName := ⟨"FaultTreeDesk$Gates", "join", "(II)I"⟩
def w_G_join : List Cond := Cond.code y_G_join b_G_join 5 (some .int) :: WS
set_option maxRecDepth 100000 in
theorem co_G_join : Cond.code y_G_join b_G_join 5 (some .int) ∈ WS := ws_t (List.mem_of_getElem? (i := 395) rfl) rfl
theorem im_G_join : Cond.instanceMethod y_G_join ∈ WS := ws_t (List.mem_of_getElem? (i := 393) (by decide +kernel)) (by decide +kernel)
theorem se_G_join : Cond.selects "FaultTreeDesk$Gates" y_G_join y_G_join ∈ WS := ws_t (List.mem_of_getElem? (i := 394) (by decide +kernel)) (by decide +kernel)
theorem cd_G_join : y_G_join.cls = R_G ∧ y_G_join.cls ≠ "java/lang/invoke/MethodHandle" ∧ y_G_join.cls ≠ "java/lang/invoke/VarHandle" ∧ (parseMethodDescriptor y_G_join.desc).map (fun d => d.parameters.length) = some 2 := by decide +kernel
abbrev b_F_top : ByteArray := prog_1_method_7_code
def y_F_top : MethodName := ⟨"FaultTreeDesk", "top", "(I)V"⟩
def w_F_top : List Cond := Cond.code y_F_top b_F_top 2 none :: WS
set_option maxRecDepth 100000 in
theorem co_F_top : Cond.code y_F_top b_F_top 2 none ∈ WS := ws_t (List.mem_of_getElem? (i := 402) rfl) rfl
theorem im_F_top : Cond.instanceMethod y_F_top ∈ WS := ws_t (List.mem_of_getElem? (i := 400) (by decide +kernel)) (by decide +kernel)
theorem se_F_top : Cond.selects "FaultTreeDesk" y_F_top y_F_top ∈ WS := ws_t (List.mem_of_getElem? (i := 401) (by decide +kernel)) (by decide +kernel)
theorem cd_F_top : y_F_top.cls = R_F ∧ y_F_top.cls ≠ "java/lang/invoke/MethodHandle" ∧ y_F_top.cls ≠ "java/lang/invoke/VarHandle" ∧ (parseMethodDescriptor y_F_top.desc).map (fun d => d.parameters.length) = some 1 := by decide +kernel
abbrev b_F_value : ByteArray := prog_1_method_8_code
def y_F_value : MethodName := ⟨"FaultTreeDesk", "value", "(I)Z"⟩
def w_F_value : List Cond := Cond.code y_F_value b_F_value 2 (some .boolean) :: WS
set_option maxRecDepth 100000 in
theorem co_F_value : Cond.code y_F_value b_F_value 2 (some .boolean) ∈ WS := ws_t (List.mem_of_getElem? (i := 409) rfl) rfl
theorem im_F_value : Cond.instanceMethod y_F_value ∈ WS := ws_t (List.mem_of_getElem? (i := 407) (by decide +kernel)) (by decide +kernel)
theorem se_F_value : Cond.selects "FaultTreeDesk" y_F_value y_F_value ∈ WS := ws_t (List.mem_of_getElem? (i := 408) (by decide +kernel)) (by decide +kernel)
theorem cd_F_value : y_F_value.cls = R_F ∧ y_F_value.cls ≠ "java/lang/invoke/MethodHandle" ∧ y_F_value.cls ≠ "java/lang/invoke/VarHandle" ∧ (parseMethodDescriptor y_F_value.desc).map (fun d => d.parameters.length) = some 1 := by decide +kernel
abbrev b_F_needTop : ByteArray := prog_1_method_20_code
def y_F_needTop : MethodName := ⟨"FaultTreeDesk", "needTop", "()V"⟩
def w_F_needTop : List Cond := Cond.code y_F_needTop b_F_needTop 1 none :: WS
set_option maxRecDepth 100000 in
theorem co_F_needTop : Cond.code y_F_needTop b_F_needTop 1 none ∈ WS := ws_t (List.mem_of_getElem? (i := 413) rfl) rfl
theorem im_F_needTop : Cond.instanceMethod y_F_needTop ∈ WS := ws_t (List.mem_of_getElem? (i := 412) (by decide +kernel)) (by decide +kernel)
theorem se_F_needTop : Cond.selects "FaultTreeDesk" y_F_needTop y_F_needTop ∈ WS := ws_p (List.mem_of_getElem? (i := 5) (by decide +kernel)) (by decide +kernel)
theorem cd_F_needTop : y_F_needTop.cls = R_F ∧ y_F_needTop.cls ≠ "java/lang/invoke/MethodHandle" ∧ y_F_needTop.cls ≠ "java/lang/invoke/VarHandle" ∧ (parseMethodDescriptor y_F_needTop.desc).map (fun d => d.parameters.length) = some 0 := by decide +kernel
abbrev b_F_freshenTruth : ByteArray := prog_1_method_22_code
def y_F_freshenTruth : MethodName := ⟨"FaultTreeDesk", "freshenTruth", "()V"⟩
def w_F_freshenTruth : List Cond := Cond.code y_F_freshenTruth b_F_freshenTruth 1 none :: WS
set_option maxRecDepth 100000 in
theorem co_F_freshenTruth : Cond.code y_F_freshenTruth b_F_freshenTruth 1 none ∈ WS := ws_t (List.mem_of_getElem? (i := 418) rfl) rfl
theorem im_F_freshenTruth : Cond.instanceMethod y_F_freshenTruth ∈ WS := ws_t (List.mem_of_getElem? (i := 417) (by decide +kernel)) (by decide +kernel)
theorem se_F_freshenTruth : Cond.selects "FaultTreeDesk" y_F_freshenTruth y_F_freshenTruth ∈ WS := ws_p (List.mem_of_getElem? (i := 6) (by decide +kernel)) (by decide +kernel)
theorem cd_F_freshenTruth : y_F_freshenTruth.cls = R_F ∧ y_F_freshenTruth.cls ≠ "java/lang/invoke/MethodHandle" ∧ y_F_freshenTruth.cls ≠ "java/lang/invoke/VarHandle" ∧ (parseMethodDescriptor y_F_freshenTruth.desc).map (fun d => d.parameters.length) = some 0 := by decide +kernel
abbrev b_T_fill : ByteArray := prog_7_method_2_code
def y_T_fill : MethodName := ⟨"FaultTreeDesk$Truth", "fill", "(LFaultTreeDesk$Events;LFaultTreeDesk$Gates;II)V"⟩
def w_T_fill : List Cond := Cond.code y_T_fill b_T_fill 6 none :: WS
set_option maxRecDepth 100000 in
theorem co_T_fill : Cond.code y_T_fill b_T_fill 6 none ∈ WS := ws_t (List.mem_of_getElem? (i := 422) rfl) rfl
theorem im_T_fill : Cond.instanceMethod y_T_fill ∈ WS := ws_t (List.mem_of_getElem? (i := 420) (by decide +kernel)) (by decide +kernel)
theorem se_T_fill : Cond.selects "FaultTreeDesk$Truth" y_T_fill y_T_fill ∈ WS := ws_t (List.mem_of_getElem? (i := 421) (by decide +kernel)) (by decide +kernel)
theorem cd_T_fill : y_T_fill.cls = R_T ∧ y_T_fill.cls ≠ "java/lang/invoke/MethodHandle" ∧ y_T_fill.cls ≠ "java/lang/invoke/VarHandle" ∧ (parseMethodDescriptor y_T_fill.desc).map (fun d => d.parameters.length) = some 4 := by decide +kernel
theorem co_JM_max : Cond.code Lib.Math.max.name Lib.Math.max.code 2 (some .int) ∈ WS := ws_t (List.mem_of_getElem? (i := 425) (by decide +kernel)) rfl
theorem sm_JM_max : Cond.static Lib.Math.max.name ∈ WS := ws_t (List.mem_of_getElem? (i := 424) (by decide +kernel)) (by decide +kernel)
abbrev b_T_fillEvent : ByteArray := prog_7_method_4_code
def y_T_fillEvent : MethodName := ⟨"FaultTreeDesk$Truth", "fillEvent", "(II)V"⟩
def w_T_fillEvent : List Cond := Cond.code y_T_fillEvent b_T_fillEvent 4 none :: WS
set_option maxRecDepth 100000 in
theorem co_T_fillEvent : Cond.code y_T_fillEvent b_T_fillEvent 4 none ∈ WS := ws_t (List.mem_of_getElem? (i := 429) rfl) rfl
theorem im_T_fillEvent : Cond.instanceMethod y_T_fillEvent ∈ WS := ws_t (List.mem_of_getElem? (i := 428) (by decide +kernel)) (by decide +kernel)
theorem se_T_fillEvent : Cond.selects "FaultTreeDesk$Truth" y_T_fillEvent y_T_fillEvent ∈ WS := ws_p (List.mem_of_getElem? (i := 7) (by decide +kernel)) (by decide +kernel)
theorem cd_T_fillEvent : y_T_fillEvent.cls = R_T ∧ y_T_fillEvent.cls ≠ "java/lang/invoke/MethodHandle" ∧ y_T_fillEvent.cls ≠ "java/lang/invoke/VarHandle" ∧ (parseMethodDescriptor y_T_fillEvent.desc).map (fun d => d.parameters.length) = some 2 := by decide +kernel
abbrev b_T_fillGates : ByteArray := prog_7_method_5_code
def y_T_fillGates : MethodName := ⟨"FaultTreeDesk$Truth", "fillGates", "(LFaultTreeDesk$Gates;)V"⟩
def w_T_fillGates : List Cond := Cond.code y_T_fillGates b_T_fillGates 6 none :: WS
set_option maxRecDepth 100000 in
theorem co_T_fillGates : Cond.code y_T_fillGates b_T_fillGates 6 none ∈ WS := ws_t (List.mem_of_getElem? (i := 436) rfl) rfl
theorem im_T_fillGates : Cond.instanceMethod y_T_fillGates ∈ WS := ws_t (List.mem_of_getElem? (i := 435) (by decide +kernel)) (by decide +kernel)
theorem se_T_fillGates : Cond.selects "FaultTreeDesk$Truth" y_T_fillGates y_T_fillGates ∈ WS := ws_p (List.mem_of_getElem? (i := 8) (by decide +kernel)) (by decide +kernel)
theorem cd_T_fillGates : y_T_fillGates.cls = R_T ∧ y_T_fillGates.cls ≠ "java/lang/invoke/MethodHandle" ∧ y_T_fillGates.cls ≠ "java/lang/invoke/VarHandle" ∧ (parseMethodDescriptor y_T_fillGates.desc).map (fun d => d.parameters.length) = some 1 := by decide +kernel
abbrev b_T_fillGate : ByteArray := prog_7_method_6_code
def y_T_fillGate : MethodName := ⟨"FaultTreeDesk$Truth", "fillGate", "(LFaultTreeDesk$Gates;I)V"⟩
def w_T_fillGate : List Cond := Cond.code y_T_fillGate b_T_fillGate 8 none :: WS
set_option maxRecDepth 100000 in
theorem co_T_fillGate : Cond.code y_T_fillGate b_T_fillGate 8 none ∈ WS := ws_t (List.mem_of_getElem? (i := 441) rfl) rfl
theorem im_T_fillGate : Cond.instanceMethod y_T_fillGate ∈ WS := ws_t (List.mem_of_getElem? (i := 440) (by decide +kernel)) (by decide +kernel)
theorem se_T_fillGate : Cond.selects "FaultTreeDesk$Truth" y_T_fillGate y_T_fillGate ∈ WS := ws_p (List.mem_of_getElem? (i := 9) (by decide +kernel)) (by decide +kernel)
theorem cd_T_fillGate : y_T_fillGate.cls = R_T ∧ y_T_fillGate.cls ≠ "java/lang/invoke/MethodHandle" ∧ y_T_fillGate.cls ≠ "java/lang/invoke/VarHandle" ∧ (parseMethodDescriptor y_T_fillGate.desc).map (fun d => d.parameters.length) = some 2 := by decide +kernel
abbrev b_T_listInputs : ByteArray := prog_7_method_7_code
def y_T_listInputs : MethodName := ⟨"FaultTreeDesk$Truth", "listInputs", "(I)I"⟩
def w_T_listInputs : List Cond := Cond.code y_T_listInputs b_T_listInputs 4 (some .int) :: WS
set_option maxRecDepth 100000 in
theorem co_T_listInputs : Cond.code y_T_listInputs b_T_listInputs 4 (some .int) ∈ WS := ws_t (List.mem_of_getElem? (i := 445) rfl) rfl
theorem im_T_listInputs : Cond.instanceMethod y_T_listInputs ∈ WS := ws_t (List.mem_of_getElem? (i := 444) (by decide +kernel)) (by decide +kernel)
theorem se_T_listInputs : Cond.selects "FaultTreeDesk$Truth" y_T_listInputs y_T_listInputs ∈ WS := ws_p (List.mem_of_getElem? (i := 10) (by decide +kernel)) (by decide +kernel)
theorem cd_T_listInputs : y_T_listInputs.cls = R_T ∧ y_T_listInputs.cls ≠ "java/lang/invoke/MethodHandle" ∧ y_T_listInputs.cls ≠ "java/lang/invoke/VarHandle" ∧ (parseMethodDescriptor y_T_listInputs.desc).map (fun d => d.parameters.length) = some 1 := by decide +kernel
abbrev b_T_oddWord : ByteArray := prog_7_method_8_code
def y_T_oddWord : MethodName := ⟨"FaultTreeDesk$Truth", "oddWord", "(II)J"⟩
def w_T_oddWord : List Cond := Cond.code y_T_oddWord b_T_oddWord 6 (some .long) :: WS
set_option maxRecDepth 100000 in
theorem co_T_oddWord : Cond.code y_T_oddWord b_T_oddWord 6 (some .long) ∈ WS := ws_t (List.mem_of_getElem? (i := 449) rfl) rfl
theorem im_T_oddWord : Cond.instanceMethod y_T_oddWord ∈ WS := ws_t (List.mem_of_getElem? (i := 448) (by decide +kernel)) (by decide +kernel)
theorem se_T_oddWord : Cond.selects "FaultTreeDesk$Truth" y_T_oddWord y_T_oddWord ∈ WS := ws_p (List.mem_of_getElem? (i := 11) (by decide +kernel)) (by decide +kernel)
theorem cd_T_oddWord : y_T_oddWord.cls = R_T ∧ y_T_oddWord.cls ≠ "java/lang/invoke/MethodHandle" ∧ y_T_oddWord.cls ≠ "java/lang/invoke/VarHandle" ∧ (parseMethodDescriptor y_T_oddWord.desc).map (fun d => d.parameters.length) = some 2 := by decide +kernel
abbrev b_T_atLeastWord : ByteArray := prog_7_method_9_code
def y_T_atLeastWord : MethodName := ⟨"FaultTreeDesk$Truth", "atLeastWord", "(III)J"⟩
def w_T_atLeastWord : List Cond := Cond.code y_T_atLeastWord b_T_atLeastWord 15 (some .long) :: WS
set_option maxRecDepth 100000 in
theorem co_T_atLeastWord : Cond.code y_T_atLeastWord b_T_atLeastWord 15 (some .long) ∈ WS := ws_t (List.mem_of_getElem? (i := 453) rfl) rfl
theorem im_T_atLeastWord : Cond.instanceMethod y_T_atLeastWord ∈ WS := ws_t (List.mem_of_getElem? (i := 452) (by decide +kernel)) (by decide +kernel)
theorem se_T_atLeastWord : Cond.selects "FaultTreeDesk$Truth" y_T_atLeastWord y_T_atLeastWord ∈ WS := ws_p (List.mem_of_getElem? (i := 12) (by decide +kernel)) (by decide +kernel)
theorem cd_T_atLeastWord : y_T_atLeastWord.cls = R_T ∧ y_T_atLeastWord.cls ≠ "java/lang/invoke/MethodHandle" ∧ y_T_atLeastWord.cls ≠ "java/lang/invoke/VarHandle" ∧ (parseMethodDescriptor y_T_atLeastWord.desc).map (fun d => d.parameters.length) = some 3 := by decide +kernel
abbrev b_T_isTrue : ByteArray := prog_7_method_3_code
def y_T_isTrue : MethodName := ⟨"FaultTreeDesk$Truth", "isTrue", "(I)Z"⟩
def w_T_isTrue : List Cond := Cond.code y_T_isTrue b_T_isTrue 3 (some .boolean) :: WS
set_option maxRecDepth 100000 in
theorem co_T_isTrue : Cond.code y_T_isTrue b_T_isTrue 3 (some .boolean) ∈ WS := ws_t (List.mem_of_getElem? (i := 457) rfl) rfl
theorem im_T_isTrue : Cond.instanceMethod y_T_isTrue ∈ WS := ws_t (List.mem_of_getElem? (i := 455) (by decide +kernel)) (by decide +kernel)
theorem se_T_isTrue : Cond.selects "FaultTreeDesk$Truth" y_T_isTrue y_T_isTrue ∈ WS := ws_t (List.mem_of_getElem? (i := 456) (by decide +kernel)) (by decide +kernel)
theorem cd_T_isTrue : y_T_isTrue.cls = R_T ∧ y_T_isTrue.cls ≠ "java/lang/invoke/MethodHandle" ∧ y_T_isTrue.cls ≠ "java/lang/invoke/VarHandle" ∧ (parseMethodDescriptor y_T_isTrue.desc).map (fun d => d.parameters.length) = some 1 := by decide +kernel
abbrev b_F_odds : ByteArray := prog_1_method_9_code
def y_F_odds : MethodName := ⟨"FaultTreeDesk", "odds", "()J"⟩
def w_F_odds : List Cond := Cond.code y_F_odds b_F_odds 1 (some .long) :: WS
set_option maxRecDepth 100000 in
theorem co_F_odds : Cond.code y_F_odds b_F_odds 1 (some .long) ∈ WS := ws_t (List.mem_of_getElem? (i := 464) rfl) rfl
theorem im_F_odds : Cond.instanceMethod y_F_odds ∈ WS := ws_t (List.mem_of_getElem? (i := 462) (by decide +kernel)) (by decide +kernel)
theorem se_F_odds : Cond.selects "FaultTreeDesk" y_F_odds y_F_odds ∈ WS := ws_t (List.mem_of_getElem? (i := 463) (by decide +kernel)) (by decide +kernel)
theorem cd_F_odds : y_F_odds.cls = R_F ∧ y_F_odds.cls ≠ "java/lang/invoke/MethodHandle" ∧ y_F_odds.cls ≠ "java/lang/invoke/VarHandle" ∧ (parseMethodDescriptor y_F_odds.desc).map (fun d => d.parameters.length) = some 0 := by decide +kernel
abbrev b_O_total : ByteArray := prog_5_method_2_code
def y_O_total : MethodName := ⟨"FaultTreeDesk$Odds", "total", "(LFaultTreeDesk$Truth;LFaultTreeDesk$Events;I)J"⟩
def w_O_total : List Cond := Cond.code y_O_total b_O_total 9 (some .long) :: WS
set_option maxRecDepth 100000 in
theorem co_O_total : Cond.code y_O_total b_O_total 9 (some .long) ∈ WS := ws_t (List.mem_of_getElem? (i := 468) rfl) rfl
theorem im_O_total : Cond.instanceMethod y_O_total ∈ WS := ws_t (List.mem_of_getElem? (i := 466) (by decide +kernel)) (by decide +kernel)
theorem se_O_total : Cond.selects "FaultTreeDesk$Odds" y_O_total y_O_total ∈ WS := ws_t (List.mem_of_getElem? (i := 467) (by decide +kernel)) (by decide +kernel)
theorem cd_O_total : y_O_total.cls = R_O ∧ y_O_total.cls ≠ "java/lang/invoke/MethodHandle" ∧ y_O_total.cls ≠ "java/lang/invoke/VarHandle" ∧ (parseMethodDescriptor y_O_total.desc).map (fun d => d.parameters.length) = some 3 := by decide +kernel
abbrev b_F_digit : ByteArray := prog_1_method_10_code
def y_F_digit : MethodName := ⟨"FaultTreeDesk", "digit", "(I)I"⟩
def w_F_digit : List Cond := Cond.code y_F_digit b_F_digit 2 (some .int) :: WS
set_option maxRecDepth 100000 in
theorem co_F_digit : Cond.code y_F_digit b_F_digit 2 (some .int) ∈ WS := ws_t (List.mem_of_getElem? (i := 476) rfl) rfl
theorem im_F_digit : Cond.instanceMethod y_F_digit ∈ WS := ws_t (List.mem_of_getElem? (i := 474) (by decide +kernel)) (by decide +kernel)
theorem se_F_digit : Cond.selects "FaultTreeDesk" y_F_digit y_F_digit ∈ WS := ws_t (List.mem_of_getElem? (i := 475) (by decide +kernel)) (by decide +kernel)
theorem cd_F_digit : y_F_digit.cls = R_F ∧ y_F_digit.cls ≠ "java/lang/invoke/MethodHandle" ∧ y_F_digit.cls ≠ "java/lang/invoke/VarHandle" ∧ (parseMethodDescriptor y_F_digit.desc).map (fun d => d.parameters.length) = some 1 := by decide +kernel
abbrev b_O_decimal : ByteArray := prog_5_method_3_code
def y_O_decimal : MethodName := ⟨"FaultTreeDesk$Odds", "decimal", "(JII)I"⟩
def w_O_decimal : List Cond := Cond.code y_O_decimal b_O_decimal 9 (some .int) :: WS
set_option maxRecDepth 100000 in
theorem co_O_decimal : Cond.code y_O_decimal b_O_decimal 9 (some .int) ∈ WS := ws_t (List.mem_of_getElem? (i := 481) rfl) rfl
theorem im_O_decimal : Cond.instanceMethod y_O_decimal ∈ WS := ws_t (List.mem_of_getElem? (i := 479) (by decide +kernel)) (by decide +kernel)
theorem se_O_decimal : Cond.selects "FaultTreeDesk$Odds" y_O_decimal y_O_decimal ∈ WS := ws_t (List.mem_of_getElem? (i := 480) (by decide +kernel)) (by decide +kernel)
theorem cd_O_decimal : y_O_decimal.cls = R_O ∧ y_O_decimal.cls ≠ "java/lang/invoke/MethodHandle" ∧ y_O_decimal.cls ≠ "java/lang/invoke/VarHandle" ∧ (parseMethodDescriptor y_O_decimal.desc).map (fun d => d.parameters.length) = some 3 := by decide +kernel
abbrev b_F_weight : ByteArray := prog_1_method_11_code
def y_F_weight : MethodName := ⟨"FaultTreeDesk", "weight", "(I)J"⟩
def w_F_weight : List Cond := Cond.code y_F_weight b_F_weight 2 (some .long) :: WS
set_option maxRecDepth 100000 in
theorem co_F_weight : Cond.code y_F_weight b_F_weight 2 (some .long) ∈ WS := ws_t (List.mem_of_getElem? (i := 489) rfl) rfl
theorem im_F_weight : Cond.instanceMethod y_F_weight ∈ WS := ws_t (List.mem_of_getElem? (i := 487) (by decide +kernel)) (by decide +kernel)
theorem se_F_weight : Cond.selects "FaultTreeDesk" y_F_weight y_F_weight ∈ WS := ws_t (List.mem_of_getElem? (i := 488) (by decide +kernel)) (by decide +kernel)
theorem cd_F_weight : y_F_weight.cls = R_F ∧ y_F_weight.cls ≠ "java/lang/invoke/MethodHandle" ∧ y_F_weight.cls ≠ "java/lang/invoke/VarHandle" ∧ (parseMethodDescriptor y_F_weight.desc).map (fun d => d.parameters.length) = some 1 := by decide +kernel
abbrev b_F_nodes : ByteArray := prog_1_method_12_code
def y_F_nodes : MethodName := ⟨"FaultTreeDesk", "nodes", "()I"⟩
def w_F_nodes : List Cond := Cond.code y_F_nodes b_F_nodes 1 (some .int) :: WS
set_option maxRecDepth 100000 in
theorem co_F_nodes : Cond.code y_F_nodes b_F_nodes 1 (some .int) ∈ WS := ws_t (List.mem_of_getElem? (i := 496) rfl) rfl
theorem im_F_nodes : Cond.instanceMethod y_F_nodes ∈ WS := ws_t (List.mem_of_getElem? (i := 494) (by decide +kernel)) (by decide +kernel)
theorem se_F_nodes : Cond.selects "FaultTreeDesk" y_F_nodes y_F_nodes ∈ WS := ws_t (List.mem_of_getElem? (i := 495) (by decide +kernel)) (by decide +kernel)
theorem cd_F_nodes : y_F_nodes.cls = R_F ∧ y_F_nodes.cls ≠ "java/lang/invoke/MethodHandle" ∧ y_F_nodes.cls ≠ "java/lang/invoke/VarHandle" ∧ (parseMethodDescriptor y_F_nodes.desc).map (fun d => d.parameters.length) = some 0 := by decide +kernel
abbrev b_D_countNodes : ByteArray := prog_2_method_2_code
def y_D_countNodes : MethodName := ⟨"FaultTreeDesk$Diagram", "countNodes", "(LFaultTreeDesk$Truth;I)I"⟩
def w_D_countNodes : List Cond := Cond.code y_D_countNodes b_D_countNodes 7 (some .int) :: WS
set_option maxRecDepth 100000 in
theorem co_D_countNodes : Cond.code y_D_countNodes b_D_countNodes 7 (some .int) ∈ WS := ws_t (List.mem_of_getElem? (i := 500) rfl) rfl
theorem im_D_countNodes : Cond.instanceMethod y_D_countNodes ∈ WS := ws_t (List.mem_of_getElem? (i := 498) (by decide +kernel)) (by decide +kernel)
theorem se_D_countNodes : Cond.selects "FaultTreeDesk$Diagram" y_D_countNodes y_D_countNodes ∈ WS := ws_t (List.mem_of_getElem? (i := 499) (by decide +kernel)) (by decide +kernel)
theorem cd_D_countNodes : y_D_countNodes.cls = R_D ∧ y_D_countNodes.cls ≠ "java/lang/invoke/MethodHandle" ∧ y_D_countNodes.cls ≠ "java/lang/invoke/VarHandle" ∧ (parseMethodDescriptor y_D_countNodes.desc).map (fun d => d.parameters.length) = some 2 := by decide +kernel
abbrev b_D_numberOf : ByteArray := prog_2_method_3_code
def y_D_numberOf : MethodName := ⟨"FaultTreeDesk$Diagram", "numberOf", "(III)I"⟩
def w_D_numberOf : List Cond := Cond.code y_D_numberOf b_D_numberOf 6 (some .int) :: WS
set_option maxRecDepth 100000 in
theorem co_D_numberOf : Cond.code y_D_numberOf b_D_numberOf 6 (some .int) ∈ WS := ws_t (List.mem_of_getElem? (i := 505) rfl) rfl
theorem im_D_numberOf : Cond.instanceMethod y_D_numberOf ∈ WS := ws_t (List.mem_of_getElem? (i := 504) (by decide +kernel)) (by decide +kernel)
theorem se_D_numberOf : Cond.selects "FaultTreeDesk$Diagram" y_D_numberOf y_D_numberOf ∈ WS := ws_p (List.mem_of_getElem? (i := 13) (by decide +kernel)) (by decide +kernel)
theorem cd_D_numberOf : y_D_numberOf.cls = R_D ∧ y_D_numberOf.cls ≠ "java/lang/invoke/MethodHandle" ∧ y_D_numberOf.cls ≠ "java/lang/invoke/VarHandle" ∧ (parseMethodDescriptor y_D_numberOf.desc).map (fun d => d.parameters.length) = some 3 := by decide +kernel
abbrev b_F_primes : ByteArray := prog_1_method_13_code
def y_F_primes : MethodName := ⟨"FaultTreeDesk", "primes", "(I)I"⟩
def w_F_primes : List Cond := Cond.code y_F_primes b_F_primes 2 (some .int) :: WS
set_option maxRecDepth 100000 in
theorem co_F_primes : Cond.code y_F_primes b_F_primes 2 (some .int) ∈ WS := ws_t (List.mem_of_getElem? (i := 512) rfl) rfl
theorem im_F_primes : Cond.instanceMethod y_F_primes ∈ WS := ws_t (List.mem_of_getElem? (i := 510) (by decide +kernel)) (by decide +kernel)
theorem se_F_primes : Cond.selects "FaultTreeDesk" y_F_primes y_F_primes ∈ WS := ws_t (List.mem_of_getElem? (i := 511) (by decide +kernel)) (by decide +kernel)
theorem cd_F_primes : y_F_primes.cls = R_F ∧ y_F_primes.cls ≠ "java/lang/invoke/MethodHandle" ∧ y_F_primes.cls ≠ "java/lang/invoke/VarHandle" ∧ (parseMethodDescriptor y_F_primes.desc).map (fun d => d.parameters.length) = some 1 := by decide +kernel
abbrev b_F_needTerms : ByteArray := prog_1_method_21_code
def y_F_needTerms : MethodName := ⟨"FaultTreeDesk", "needTerms", "()V"⟩
def w_F_needTerms : List Cond := Cond.code y_F_needTerms b_F_needTerms 1 none :: WS
set_option maxRecDepth 100000 in
theorem co_F_needTerms : Cond.code y_F_needTerms b_F_needTerms 1 none ∈ WS := ws_t (List.mem_of_getElem? (i := 517) rfl) rfl
theorem im_F_needTerms : Cond.instanceMethod y_F_needTerms ∈ WS := ws_t (List.mem_of_getElem? (i := 516) (by decide +kernel)) (by decide +kernel)
theorem se_F_needTerms : Cond.selects "FaultTreeDesk" y_F_needTerms y_F_needTerms ∈ WS := ws_p (List.mem_of_getElem? (i := 14) (by decide +kernel)) (by decide +kernel)
theorem cd_F_needTerms : y_F_needTerms.cls = R_F ∧ y_F_needTerms.cls ≠ "java/lang/invoke/MethodHandle" ∧ y_F_needTerms.cls ≠ "java/lang/invoke/VarHandle" ∧ (parseMethodDescriptor y_F_needTerms.desc).map (fun d => d.parameters.length) = some 0 := by decide +kernel
abbrev b_X_find : ByteArray := prog_6_method_2_code
def y_X_find : MethodName := ⟨"FaultTreeDesk$Terms", "find", "(LFaultTreeDesk$Truth;I)V"⟩
def w_X_find : List Cond := Cond.code y_X_find b_X_find 6 none :: WS
set_option maxRecDepth 100000 in
theorem co_X_find : Cond.code y_X_find b_X_find 6 none ∈ WS := ws_t (List.mem_of_getElem? (i := 521) rfl) rfl
theorem im_X_find : Cond.instanceMethod y_X_find ∈ WS := ws_t (List.mem_of_getElem? (i := 519) (by decide +kernel)) (by decide +kernel)
theorem se_X_find : Cond.selects "FaultTreeDesk$Terms" y_X_find y_X_find ∈ WS := ws_t (List.mem_of_getElem? (i := 520) (by decide +kernel)) (by decide +kernel)
theorem cd_X_find : y_X_find.cls = R_X ∧ y_X_find.cls ≠ "java/lang/invoke/MethodHandle" ∧ y_X_find.cls ≠ "java/lang/invoke/VarHandle" ∧ (parseMethodDescriptor y_X_find.desc).map (fun d => d.parameters.length) = some 2 := by decide +kernel
abbrev b_X_walk : ByteArray := prog_6_method_7_code
def y_X_walk : MethodName := ⟨"FaultTreeDesk$Terms", "walk", "(II)V"⟩
def w_X_walk : List Cond := Cond.code y_X_walk b_X_walk 11 none :: WS
set_option maxRecDepth 100000 in
theorem co_X_walk : Cond.code y_X_walk b_X_walk 11 none ∈ WS := ws_t (List.mem_of_getElem? (i := 525) rfl) rfl
theorem im_X_walk : Cond.instanceMethod y_X_walk ∈ WS := ws_t (List.mem_of_getElem? (i := 524) (by decide +kernel)) (by decide +kernel)
theorem se_X_walk : Cond.selects "FaultTreeDesk$Terms" y_X_walk y_X_walk ∈ WS := ws_p (List.mem_of_getElem? (i := 15) (by decide +kernel)) (by decide +kernel)
theorem cd_X_walk : y_X_walk.cls = R_X ∧ y_X_walk.cls ≠ "java/lang/invoke/MethodHandle" ∧ y_X_walk.cls ≠ "java/lang/invoke/VarHandle" ∧ (parseMethodDescriptor y_X_walk.desc).map (fun d => d.parameters.length) = some 2 := by decide +kernel
abbrev b_X_collect : ByteArray := prog_6_method_9_code
def y_X_collect : MethodName := ⟨"FaultTreeDesk$Terms", "collect", "(I)V"⟩
def w_X_collect : List Cond := Cond.code y_X_collect b_X_collect 5 none :: WS
set_option maxRecDepth 100000 in
theorem co_X_collect : Cond.code y_X_collect b_X_collect 5 none ∈ WS := ws_t (List.mem_of_getElem? (i := 529) rfl) rfl
theorem im_X_collect : Cond.instanceMethod y_X_collect ∈ WS := ws_t (List.mem_of_getElem? (i := 528) (by decide +kernel)) (by decide +kernel)
theorem se_X_collect : Cond.selects "FaultTreeDesk$Terms" y_X_collect y_X_collect ∈ WS := ws_p (List.mem_of_getElem? (i := 16) (by decide +kernel)) (by decide +kernel)
theorem cd_X_collect : y_X_collect.cls = R_X ∧ y_X_collect.cls ≠ "java/lang/invoke/MethodHandle" ∧ y_X_collect.cls ≠ "java/lang/invoke/VarHandle" ∧ (parseMethodDescriptor y_X_collect.desc).map (fun d => d.parameters.length) = some 1 := by decide +kernel
abbrev b_X_allKeptOrOff : ByteArray := prog_6_method_10_code
def y_X_allKeptOrOff : MethodName := ⟨"FaultTreeDesk$Terms", "allKeptOrOff", "(I)J"⟩
def w_X_allKeptOrOff : List Cond := Cond.code y_X_allKeptOrOff b_X_allKeptOrOff 5 (some .long) :: WS
set_option maxRecDepth 100000 in
theorem co_X_allKeptOrOff : Cond.code y_X_allKeptOrOff b_X_allKeptOrOff 5 (some .long) ∈ WS := ws_t (List.mem_of_getElem? (i := 533) rfl) rfl
theorem im_X_allKeptOrOff : Cond.instanceMethod y_X_allKeptOrOff ∈ WS := ws_t (List.mem_of_getElem? (i := 532) (by decide +kernel)) (by decide +kernel)
theorem se_X_allKeptOrOff : Cond.selects "FaultTreeDesk$Terms" y_X_allKeptOrOff y_X_allKeptOrOff ∈ WS := ws_p (List.mem_of_getElem? (i := 17) (by decide +kernel)) (by decide +kernel)
theorem cd_X_allKeptOrOff : y_X_allKeptOrOff.cls = R_X ∧ y_X_allKeptOrOff.cls ≠ "java/lang/invoke/MethodHandle" ∧ y_X_allKeptOrOff.cls ≠ "java/lang/invoke/VarHandle" ∧ (parseMethodDescriptor y_X_allKeptOrOff.desc).map (fun d => d.parameters.length) = some 1 := by decide +kernel
abbrev b_X_primeSettings : ByteArray := prog_6_method_11_code
def y_X_primeSettings : MethodName := ⟨"FaultTreeDesk$Terms", "primeSettings", "(II)J"⟩
def w_X_primeSettings : List Cond := Cond.code y_X_primeSettings b_X_primeSettings 6 (some .long) :: WS
set_option maxRecDepth 100000 in
theorem co_X_primeSettings : Cond.code y_X_primeSettings b_X_primeSettings 6 (some .long) ∈ WS := ws_t (List.mem_of_getElem? (i := 539) rfl) rfl
theorem im_X_primeSettings : Cond.instanceMethod y_X_primeSettings ∈ WS := ws_t (List.mem_of_getElem? (i := 538) (by decide +kernel)) (by decide +kernel)
theorem se_X_primeSettings : Cond.selects "FaultTreeDesk$Terms" y_X_primeSettings y_X_primeSettings ∈ WS := ws_p (List.mem_of_getElem? (i := 18) (by decide +kernel)) (by decide +kernel)
theorem cd_X_primeSettings : y_X_primeSettings.cls = R_X ∧ y_X_primeSettings.cls ≠ "java/lang/invoke/MethodHandle" ∧ y_X_primeSettings.cls ≠ "java/lang/invoke/VarHandle" ∧ (parseMethodDescriptor y_X_primeSettings.desc).map (fun d => d.parameters.length) = some 2 := by decide +kernel
abbrev b_X_flipped : ByteArray := prog_6_method_8_code
def y_X_flipped : MethodName := ⟨"FaultTreeDesk$Terms", "flipped", "([JII)J"⟩
def w_X_flipped : List Cond := Cond.code y_X_flipped b_X_flipped 7 (some .long) :: WS
set_option maxRecDepth 100000 in
theorem co_X_flipped : Cond.code y_X_flipped b_X_flipped 7 (some .long) ∈ WS := ws_t (List.mem_of_getElem? (i := 543) rfl) rfl
theorem im_X_flipped : Cond.instanceMethod y_X_flipped ∈ WS := ws_t (List.mem_of_getElem? (i := 542) (by decide +kernel)) (by decide +kernel)
theorem se_X_flipped : Cond.selects "FaultTreeDesk$Terms" y_X_flipped y_X_flipped ∈ WS := ws_p (List.mem_of_getElem? (i := 19) (by decide +kernel)) (by decide +kernel)
theorem cd_X_flipped : y_X_flipped.cls = R_X ∧ y_X_flipped.cls ≠ "java/lang/invoke/MethodHandle" ∧ y_X_flipped.cls ≠ "java/lang/invoke/VarHandle" ∧ (parseMethodDescriptor y_X_flipped.desc).map (fun d => d.parameters.length) = some 3 := by decide +kernel
abbrev b_X_addAll : ByteArray := prog_6_method_12_code
def y_X_addAll : MethodName := ⟨"FaultTreeDesk$Terms", "addAll", "(IIJ)V"⟩
def w_X_addAll : List Cond := Cond.code y_X_addAll b_X_addAll 9 none :: WS
set_option maxRecDepth 100000 in
theorem co_X_addAll : Cond.code y_X_addAll b_X_addAll 9 none ∈ WS := ws_t (List.mem_of_getElem? (i := 547) rfl) rfl
theorem im_X_addAll : Cond.instanceMethod y_X_addAll ∈ WS := ws_t (List.mem_of_getElem? (i := 546) (by decide +kernel)) (by decide +kernel)
theorem se_X_addAll : Cond.selects "FaultTreeDesk$Terms" y_X_addAll y_X_addAll ∈ WS := ws_p (List.mem_of_getElem? (i := 20) (by decide +kernel)) (by decide +kernel)
theorem cd_X_addAll : y_X_addAll.cls = R_X ∧ y_X_addAll.cls ≠ "java/lang/invoke/MethodHandle" ∧ y_X_addAll.cls ≠ "java/lang/invoke/VarHandle" ∧ (parseMethodDescriptor y_X_addAll.desc).map (fun d => d.parameters.length) = some 3 := by decide +kernel
abbrev b_JL_bitCount : ByteArray := prog_15_method_50_code
def y_JL_bitCount : MethodName := ⟨"java/lang/Long", "bitCount", "(J)I"⟩
def w_JL_bitCount : List Cond := Cond.code y_JL_bitCount b_JL_bitCount 2 (some .int) :: WS
set_option maxRecDepth 100000 in
theorem co_JL_bitCount : Cond.code y_JL_bitCount b_JL_bitCount 2 (some .int) ∈ WS := ws_t (List.mem_of_getElem? (i := 550) rfl) rfl
theorem sm_JL_bitCount : Cond.static y_JL_bitCount ∈ WS := ws_t (List.mem_of_getElem? (i := 549) (by decide +kernel)) (by decide +kernel)
theorem ce_JL_bitCount : y_JL_bitCount.cls ≠ "java/lang/invoke/MethodHandle" ∧ y_JL_bitCount.cls ≠ "java/lang/invoke/VarHandle" ∧ (parseMethodDescriptor y_JL_bitCount.desc).map (fun d => d.parameters.length) = some 1 := by decide +kernel
abbrev b_X_insert : ByteArray := prog_6_method_13_code
def y_X_insert : MethodName := ⟨"FaultTreeDesk$Terms", "insert", "(I)V"⟩
def w_X_insert : List Cond := Cond.code y_X_insert b_X_insert 3 none :: WS
set_option maxRecDepth 100000 in
theorem co_X_insert : Cond.code y_X_insert b_X_insert 3 none ∈ WS := ws_t (List.mem_of_getElem? (i := 558) rfl) rfl
theorem im_X_insert : Cond.instanceMethod y_X_insert ∈ WS := ws_t (List.mem_of_getElem? (i := 557) (by decide +kernel)) (by decide +kernel)
theorem se_X_insert : Cond.selects "FaultTreeDesk$Terms" y_X_insert y_X_insert ∈ WS := ws_p (List.mem_of_getElem? (i := 21) (by decide +kernel)) (by decide +kernel)
theorem cd_X_insert : y_X_insert.cls = R_X ∧ y_X_insert.cls ≠ "java/lang/invoke/MethodHandle" ∧ y_X_insert.cls ≠ "java/lang/invoke/VarHandle" ∧ (parseMethodDescriptor y_X_insert.desc).map (fun d => d.parameters.length) = some 1 := by decide +kernel
abbrev b_X_countUpTo : ByteArray := prog_6_method_5_code
def y_X_countUpTo : MethodName := ⟨"FaultTreeDesk$Terms", "countUpTo", "(I)I"⟩
def w_X_countUpTo : List Cond := Cond.code y_X_countUpTo b_X_countUpTo 4 (some .int) :: WS
set_option maxRecDepth 100000 in
theorem co_X_countUpTo : Cond.code y_X_countUpTo b_X_countUpTo 4 (some .int) ∈ WS := ws_t (List.mem_of_getElem? (i := 566) rfl) rfl
theorem im_X_countUpTo : Cond.instanceMethod y_X_countUpTo ∈ WS := ws_t (List.mem_of_getElem? (i := 564) (by decide +kernel)) (by decide +kernel)
theorem se_X_countUpTo : Cond.selects "FaultTreeDesk$Terms" y_X_countUpTo y_X_countUpTo ∈ WS := ws_t (List.mem_of_getElem? (i := 565) (by decide +kernel)) (by decide +kernel)
theorem cd_X_countUpTo : y_X_countUpTo.cls = R_X ∧ y_X_countUpTo.cls ≠ "java/lang/invoke/MethodHandle" ∧ y_X_countUpTo.cls ≠ "java/lang/invoke/VarHandle" ∧ (parseMethodDescriptor y_X_countUpTo.desc).map (fun d => d.parameters.length) = some 1 := by decide +kernel
abbrev b_F_prime : ByteArray := prog_1_method_14_code
def y_F_prime : MethodName := ⟨"FaultTreeDesk", "prime", "(II)I"⟩
def w_F_prime : List Cond := Cond.code y_F_prime b_F_prime 3 (some .int) :: WS
set_option maxRecDepth 100000 in
theorem co_F_prime : Cond.code y_F_prime b_F_prime 3 (some .int) ∈ WS := ws_t (List.mem_of_getElem? (i := 574) rfl) rfl
theorem im_F_prime : Cond.instanceMethod y_F_prime ∈ WS := ws_t (List.mem_of_getElem? (i := 572) (by decide +kernel)) (by decide +kernel)
theorem se_F_prime : Cond.selects "FaultTreeDesk" y_F_prime y_F_prime ∈ WS := ws_t (List.mem_of_getElem? (i := 573) (by decide +kernel)) (by decide +kernel)
theorem cd_F_prime : y_F_prime.cls = R_F ∧ y_F_prime.cls ≠ "java/lang/invoke/MethodHandle" ∧ y_F_prime.cls ≠ "java/lang/invoke/VarHandle" ∧ (parseMethodDescriptor y_F_prime.desc).map (fun d => d.parameters.length) = some 2 := by decide +kernel
abbrev b_X_onOf : ByteArray := prog_6_method_3_code
def y_X_onOf : MethodName := ⟨"FaultTreeDesk$Terms", "onOf", "(I)I"⟩
def w_X_onOf : List Cond := Cond.code y_X_onOf b_X_onOf 2 (some .int) :: WS
set_option maxRecDepth 100000 in
theorem co_X_onOf : Cond.code y_X_onOf b_X_onOf 2 (some .int) ∈ WS := ws_t (List.mem_of_getElem? (i := 595) rfl) rfl
theorem im_X_onOf : Cond.instanceMethod y_X_onOf ∈ WS := ws_t (List.mem_of_getElem? (i := 593) (by decide +kernel)) (by decide +kernel)
theorem se_X_onOf : Cond.selects "FaultTreeDesk$Terms" y_X_onOf y_X_onOf ∈ WS := ws_t (List.mem_of_getElem? (i := 594) (by decide +kernel)) (by decide +kernel)
theorem cd_X_onOf : y_X_onOf.cls = R_X ∧ y_X_onOf.cls ≠ "java/lang/invoke/MethodHandle" ∧ y_X_onOf.cls ≠ "java/lang/invoke/VarHandle" ∧ (parseMethodDescriptor y_X_onOf.desc).map (fun d => d.parameters.length) = some 1 := by decide +kernel
abbrev b_X_offOf : ByteArray := prog_6_method_4_code
def y_X_offOf : MethodName := ⟨"FaultTreeDesk$Terms", "offOf", "(I)I"⟩
def w_X_offOf : List Cond := Cond.code y_X_offOf b_X_offOf 2 (some .int) :: WS
set_option maxRecDepth 100000 in
theorem co_X_offOf : Cond.code y_X_offOf b_X_offOf 2 (some .int) ∈ WS := ws_t (List.mem_of_getElem? (i := 599) rfl) rfl
theorem im_X_offOf : Cond.instanceMethod y_X_offOf ∈ WS := ws_t (List.mem_of_getElem? (i := 597) (by decide +kernel)) (by decide +kernel)
theorem se_X_offOf : Cond.selects "FaultTreeDesk$Terms" y_X_offOf y_X_offOf ∈ WS := ws_t (List.mem_of_getElem? (i := 598) (by decide +kernel)) (by decide +kernel)
theorem cd_X_offOf : y_X_offOf.cls = R_X ∧ y_X_offOf.cls ≠ "java/lang/invoke/MethodHandle" ∧ y_X_offOf.cls ≠ "java/lang/invoke/VarHandle" ∧ (parseMethodDescriptor y_X_offOf.desc).map (fun d => d.parameters.length) = some 1 := by decide +kernel
abbrev b_F_share : ByteArray := prog_1_method_15_code
def y_F_share : MethodName := ⟨"FaultTreeDesk", "share", "(I)I"⟩
def w_F_share : List Cond := Cond.code y_F_share b_F_share 2 (some .int) :: WS
set_option maxRecDepth 100000 in
theorem co_F_share : Cond.code y_F_share b_F_share 2 (some .int) ∈ WS := ws_t (List.mem_of_getElem? (i := 606) rfl) rfl
theorem im_F_share : Cond.instanceMethod y_F_share ∈ WS := ws_t (List.mem_of_getElem? (i := 604) (by decide +kernel)) (by decide +kernel)
theorem se_F_share : Cond.selects "FaultTreeDesk" y_F_share y_F_share ∈ WS := ws_t (List.mem_of_getElem? (i := 605) (by decide +kernel)) (by decide +kernel)
theorem cd_F_share : y_F_share.cls = R_F ∧ y_F_share.cls ≠ "java/lang/invoke/MethodHandle" ∧ y_F_share.cls ≠ "java/lang/invoke/VarHandle" ∧ (parseMethodDescriptor y_F_share.desc).map (fun d => d.parameters.length) = some 1 := by decide +kernel
abbrev b_X_countWith : ByteArray := prog_6_method_6_code
def y_X_countWith : MethodName := ⟨"FaultTreeDesk$Terms", "countWith", "(I)I"⟩
def w_X_countWith : List Cond := Cond.code y_X_countWith b_X_countWith 4 (some .int) :: WS
set_option maxRecDepth 100000 in
theorem co_X_countWith : Cond.code y_X_countWith b_X_countWith 4 (some .int) ∈ WS := ws_t (List.mem_of_getElem? (i := 610) rfl) rfl
theorem im_X_countWith : Cond.instanceMethod y_X_countWith ∈ WS := ws_t (List.mem_of_getElem? (i := 608) (by decide +kernel)) (by decide +kernel)
theorem se_X_countWith : Cond.selects "FaultTreeDesk$Terms" y_X_countWith y_X_countWith ∈ WS := ws_t (List.mem_of_getElem? (i := 609) (by decide +kernel)) (by decide +kernel)
theorem cd_X_countWith : y_X_countWith.cls = R_X ∧ y_X_countWith.cls ≠ "java/lang/invoke/MethodHandle" ∧ y_X_countWith.cls ≠ "java/lang/invoke/VarHandle" ∧ (parseMethodDescriptor y_X_countWith.desc).map (fun d => d.parameters.length) = some 1 := by decide +kernel
abbrev b_F_modules : ByteArray := prog_1_method_16_code
def y_F_modules : MethodName := ⟨"FaultTreeDesk", "modules", "()I"⟩
def w_F_modules : List Cond := Cond.code y_F_modules b_F_modules 1 (some .int) :: WS
set_option maxRecDepth 100000 in
theorem co_F_modules : Cond.code y_F_modules b_F_modules 1 (some .int) ∈ WS := ws_t (List.mem_of_getElem? (i := 619) rfl) rfl
theorem im_F_modules : Cond.instanceMethod y_F_modules ∈ WS := ws_t (List.mem_of_getElem? (i := 617) (by decide +kernel)) (by decide +kernel)
theorem se_F_modules : Cond.selects "FaultTreeDesk" y_F_modules y_F_modules ∈ WS := ws_t (List.mem_of_getElem? (i := 618) (by decide +kernel)) (by decide +kernel)
theorem cd_F_modules : y_F_modules.cls = R_F ∧ y_F_modules.cls ≠ "java/lang/invoke/MethodHandle" ∧ y_F_modules.cls ≠ "java/lang/invoke/VarHandle" ∧ (parseMethodDescriptor y_F_modules.desc).map (fun d => d.parameters.length) = some 0 := by decide +kernel
abbrev b_G_moduleSum : ByteArray := prog_4_method_10_code
def y_G_moduleSum : MethodName := ⟨"FaultTreeDesk$Gates", "moduleSum", "(I)I"⟩
def w_G_moduleSum : List Cond := Cond.code y_G_moduleSum b_G_moduleSum 5 (some .int) :: WS
set_option maxRecDepth 100000 in
theorem co_G_moduleSum : Cond.code y_G_moduleSum b_G_moduleSum 5 (some .int) ∈ WS := ws_t (List.mem_of_getElem? (i := 623) rfl) rfl
theorem im_G_moduleSum : Cond.instanceMethod y_G_moduleSum ∈ WS := ws_t (List.mem_of_getElem? (i := 621) (by decide +kernel)) (by decide +kernel)
theorem se_G_moduleSum : Cond.selects "FaultTreeDesk$Gates" y_G_moduleSum y_G_moduleSum ∈ WS := ws_t (List.mem_of_getElem? (i := 622) (by decide +kernel)) (by decide +kernel)
theorem cd_G_moduleSum : y_G_moduleSum.cls = R_G ∧ y_G_moduleSum.cls ≠ "java/lang/invoke/MethodHandle" ∧ y_G_moduleSum.cls ≠ "java/lang/invoke/VarHandle" ∧ (parseMethodDescriptor y_G_moduleSum.desc).map (fun d => d.parameters.length) = some 1 := by decide +kernel
abbrev b_G_standsAlone : ByteArray := prog_4_method_11_code
def y_G_standsAlone : MethodName := ⟨"FaultTreeDesk$Gates", "standsAlone", "(II)Z"⟩
def w_G_standsAlone : List Cond := Cond.code y_G_standsAlone b_G_standsAlone 5 (some .boolean) :: WS
set_option maxRecDepth 100000 in
theorem co_G_standsAlone : Cond.code y_G_standsAlone b_G_standsAlone 5 (some .boolean) ∈ WS := ws_t (List.mem_of_getElem? (i := 627) rfl) rfl
theorem im_G_standsAlone : Cond.instanceMethod y_G_standsAlone ∈ WS := ws_t (List.mem_of_getElem? (i := 626) (by decide +kernel)) (by decide +kernel)
theorem se_G_standsAlone : Cond.selects "FaultTreeDesk$Gates" y_G_standsAlone y_G_standsAlone ∈ WS := ws_p (List.mem_of_getElem? (i := 22) (by decide +kernel)) (by decide +kernel)
theorem cd_G_standsAlone : y_G_standsAlone.cls = R_G ∧ y_G_standsAlone.cls ≠ "java/lang/invoke/MethodHandle" ∧ y_G_standsAlone.cls ≠ "java/lang/invoke/VarHandle" ∧ (parseMethodDescriptor y_G_standsAlone.desc).map (fun d => d.parameters.length) = some 2 := by decide +kernel
abbrev b_M_init : ByteArray := prog_9_method_1_code
def y_M_init : MethodName := ⟨"FaultTreeDeskModel", "<init>", "()V"⟩
def w_M_init : List Cond := Cond.code y_M_init b_M_init 1 none :: WS
set_option maxRecDepth 100000 in
theorem co_M_init : Cond.code y_M_init b_M_init 1 none ∈ WS := ws_t (List.mem_of_getElem? (i := 632) rfl) rfl
theorem im_M_init : Cond.instanceMethod y_M_init ∈ WS := ws_t (List.mem_of_getElem? (i := 631) (by decide +kernel)) (by decide +kernel)
abbrev b_M_thrown : ByteArray := prog_9_method_2_code
def y_M_thrown : MethodName := ⟨"FaultTreeDeskModel", "thrown", "()I"⟩
def w_M_thrown : List Cond := Cond.code y_M_thrown b_M_thrown 1 (some .int) :: WS
set_option maxRecDepth 100000 in
theorem co_M_thrown : Cond.code y_M_thrown b_M_thrown 1 (some .int) ∈ WS := ws_t (List.mem_of_getElem? (i := 696) rfl) rfl
theorem im_M_thrown : Cond.instanceMethod y_M_thrown ∈ WS := ws_t (List.mem_of_getElem? (i := 694) (by decide +kernel)) (by decide +kernel)
theorem se_M_thrown : Cond.selects "FaultTreeDeskModel" y_M_thrown y_M_thrown ∈ WS := ws_t (List.mem_of_getElem? (i := 695) (by decide +kernel)) (by decide +kernel)
theorem cd_M_thrown : y_M_thrown.cls = R_M ∧ y_M_thrown.cls ≠ "java/lang/invoke/MethodHandle" ∧ y_M_thrown.cls ≠ "java/lang/invoke/VarHandle" ∧ (parseMethodDescriptor y_M_thrown.desc).map (fun d => d.parameters.length) = some 0 := by decide +kernel
abbrev b_M_event : ByteArray := prog_9_method_5_code
def y_M_event : MethodName := ⟨"FaultTreeDeskModel", "event", "(I)I"⟩
def w_M_event : List Cond := Cond.code y_M_event b_M_event 2 (some .int) :: WS
set_option maxRecDepth 100000 in
theorem co_M_event : Cond.code y_M_event b_M_event 2 (some .int) ∈ WS := ws_t (List.mem_of_getElem? (i := 700) rfl) rfl
theorem im_M_event : Cond.instanceMethod y_M_event ∈ WS := ws_t (List.mem_of_getElem? (i := 698) (by decide +kernel)) (by decide +kernel)
theorem se_M_event : Cond.selects "FaultTreeDeskModel" y_M_event y_M_event ∈ WS := ws_t (List.mem_of_getElem? (i := 699) (by decide +kernel)) (by decide +kernel)
theorem cd_M_event : y_M_event.cls = R_M ∧ y_M_event.cls ≠ "java/lang/invoke/MethodHandle" ∧ y_M_event.cls ≠ "java/lang/invoke/VarHandle" ∧ (parseMethodDescriptor y_M_event.desc).map (fun d => d.parameters.length) = some 1 := by decide +kernel
abbrev b_M_chance : ByteArray := prog_9_method_6_code
def y_M_chance : MethodName := ⟨"FaultTreeDeskModel", "chance", "(II)I"⟩
def w_M_chance : List Cond := Cond.code y_M_chance b_M_chance 4 (some .int) :: WS
set_option maxRecDepth 100000 in
theorem co_M_chance : Cond.code y_M_chance b_M_chance 4 (some .int) ∈ WS := ws_t (List.mem_of_getElem? (i := 704) rfl) rfl
theorem im_M_chance : Cond.instanceMethod y_M_chance ∈ WS := ws_t (List.mem_of_getElem? (i := 702) (by decide +kernel)) (by decide +kernel)
theorem se_M_chance : Cond.selects "FaultTreeDeskModel" y_M_chance y_M_chance ∈ WS := ws_t (List.mem_of_getElem? (i := 703) (by decide +kernel)) (by decide +kernel)
theorem cd_M_chance : y_M_chance.cls = R_M ∧ y_M_chance.cls ≠ "java/lang/invoke/MethodHandle" ∧ y_M_chance.cls ≠ "java/lang/invoke/VarHandle" ∧ (parseMethodDescriptor y_M_chance.desc).map (fun d => d.parameters.length) = some 2 := by decide +kernel
abbrev b_M_isEvent : ByteArray := prog_9_method_3_code
def y_M_isEvent : MethodName := ⟨"FaultTreeDeskModel", "isEvent", "(I)Z"⟩
def w_M_isEvent : List Cond := Cond.code y_M_isEvent b_M_isEvent 2 (some .boolean) :: WS
set_option maxRecDepth 100000 in
theorem co_M_isEvent : Cond.code y_M_isEvent b_M_isEvent 2 (some .boolean) ∈ WS := ws_t (List.mem_of_getElem? (i := 708) rfl) rfl
theorem im_M_isEvent : Cond.instanceMethod y_M_isEvent ∈ WS := ws_t (List.mem_of_getElem? (i := 707) (by decide +kernel)) (by decide +kernel)
theorem se_M_isEvent : Cond.selects "FaultTreeDeskModel" y_M_isEvent y_M_isEvent ∈ WS := ws_p (List.mem_of_getElem? (i := 23) (by decide +kernel)) (by decide +kernel)
theorem cd_M_isEvent : y_M_isEvent.cls = R_M ∧ y_M_isEvent.cls ≠ "java/lang/invoke/MethodHandle" ∧ y_M_isEvent.cls ≠ "java/lang/invoke/VarHandle" ∧ (parseMethodDescriptor y_M_isEvent.desc).map (fun d => d.parameters.length) = some 1 := by decide +kernel
abbrev b_M_hold : ByteArray := prog_9_method_7_code
def y_M_hold : MethodName := ⟨"FaultTreeDeskModel", "hold", "(II)I"⟩
def w_M_hold : List Cond := Cond.code y_M_hold b_M_hold 4 (some .int) :: WS
set_option maxRecDepth 100000 in
theorem co_M_hold : Cond.code y_M_hold b_M_hold 4 (some .int) ∈ WS := ws_t (List.mem_of_getElem? (i := 712) rfl) rfl
theorem im_M_hold : Cond.instanceMethod y_M_hold ∈ WS := ws_t (List.mem_of_getElem? (i := 710) (by decide +kernel)) (by decide +kernel)
theorem se_M_hold : Cond.selects "FaultTreeDeskModel" y_M_hold y_M_hold ∈ WS := ws_t (List.mem_of_getElem? (i := 711) (by decide +kernel)) (by decide +kernel)
theorem cd_M_hold : y_M_hold.cls = R_M ∧ y_M_hold.cls ≠ "java/lang/invoke/MethodHandle" ∧ y_M_hold.cls ≠ "java/lang/invoke/VarHandle" ∧ (parseMethodDescriptor y_M_hold.desc).map (fun d => d.parameters.length) = some 2 := by decide +kernel
abbrev b_M_gate : ByteArray := prog_9_method_8_code
def y_M_gate : MethodName := ⟨"FaultTreeDeskModel", "gate", "(II)I"⟩
def w_M_gate : List Cond := Cond.code y_M_gate b_M_gate 4 (some .int) :: WS
set_option maxRecDepth 100000 in
theorem co_M_gate : Cond.code y_M_gate b_M_gate 4 (some .int) ∈ WS := ws_t (List.mem_of_getElem? (i := 716) rfl) rfl
theorem im_M_gate : Cond.instanceMethod y_M_gate ∈ WS := ws_t (List.mem_of_getElem? (i := 714) (by decide +kernel)) (by decide +kernel)
theorem se_M_gate : Cond.selects "FaultTreeDeskModel" y_M_gate y_M_gate ∈ WS := ws_t (List.mem_of_getElem? (i := 715) (by decide +kernel)) (by decide +kernel)
theorem cd_M_gate : y_M_gate.cls = R_M ∧ y_M_gate.cls ≠ "java/lang/invoke/MethodHandle" ∧ y_M_gate.cls ≠ "java/lang/invoke/VarHandle" ∧ (parseMethodDescriptor y_M_gate.desc).map (fun d => d.parameters.length) = some 2 := by decide +kernel
abbrev b_M_input : ByteArray := prog_9_method_11_code
def y_M_input : MethodName := ⟨"FaultTreeDeskModel", "input", "(II)I"⟩
def w_M_input : List Cond := Cond.code y_M_input b_M_input 4 (some .int) :: WS
set_option maxRecDepth 100000 in
theorem co_M_input : Cond.code y_M_input b_M_input 4 (some .int) ∈ WS := ws_t (List.mem_of_getElem? (i := 720) rfl) rfl
theorem im_M_input : Cond.instanceMethod y_M_input ∈ WS := ws_t (List.mem_of_getElem? (i := 718) (by decide +kernel)) (by decide +kernel)
theorem se_M_input : Cond.selects "FaultTreeDeskModel" y_M_input y_M_input ∈ WS := ws_t (List.mem_of_getElem? (i := 719) (by decide +kernel)) (by decide +kernel)
theorem cd_M_input : y_M_input.cls = R_M ∧ y_M_input.cls ≠ "java/lang/invoke/MethodHandle" ∧ y_M_input.cls ≠ "java/lang/invoke/VarHandle" ∧ (parseMethodDescriptor y_M_input.desc).map (fun d => d.parameters.length) = some 2 := by decide +kernel
abbrev b_M_isGate : ByteArray := prog_9_method_4_code
def y_M_isGate : MethodName := ⟨"FaultTreeDeskModel", "isGate", "(I)Z"⟩
def w_M_isGate : List Cond := Cond.code y_M_isGate b_M_isGate 2 (some .boolean) :: WS
set_option maxRecDepth 100000 in
theorem co_M_isGate : Cond.code y_M_isGate b_M_isGate 2 (some .boolean) ∈ WS := ws_t (List.mem_of_getElem? (i := 724) rfl) rfl
theorem im_M_isGate : Cond.instanceMethod y_M_isGate ∈ WS := ws_t (List.mem_of_getElem? (i := 723) (by decide +kernel)) (by decide +kernel)
theorem se_M_isGate : Cond.selects "FaultTreeDeskModel" y_M_isGate y_M_isGate ∈ WS := ws_p (List.mem_of_getElem? (i := 24) (by decide +kernel)) (by decide +kernel)
theorem cd_M_isGate : y_M_isGate.cls = R_M ∧ y_M_isGate.cls ≠ "java/lang/invoke/MethodHandle" ∧ y_M_isGate.cls ≠ "java/lang/invoke/VarHandle" ∧ (parseMethodDescriptor y_M_isGate.desc).map (fun d => d.parameters.length) = some 1 := by decide +kernel
abbrev b_M_hasChild : ByteArray := prog_9_method_10_code
def y_M_hasChild : MethodName := ⟨"FaultTreeDeskModel", "hasChild", "(II)Z"⟩
def w_M_hasChild : List Cond := Cond.code y_M_hasChild b_M_hasChild 5 (some .boolean) :: WS
set_option maxRecDepth 100000 in
theorem co_M_hasChild : Cond.code y_M_hasChild b_M_hasChild 5 (some .boolean) ∈ WS := ws_t (List.mem_of_getElem? (i := 728) rfl) rfl
theorem im_M_hasChild : Cond.instanceMethod y_M_hasChild ∈ WS := ws_t (List.mem_of_getElem? (i := 727) (by decide +kernel)) (by decide +kernel)
theorem se_M_hasChild : Cond.selects "FaultTreeDeskModel" y_M_hasChild y_M_hasChild ∈ WS := ws_p (List.mem_of_getElem? (i := 25) (by decide +kernel)) (by decide +kernel)
theorem cd_M_hasChild : y_M_hasChild.cls = R_M ∧ y_M_hasChild.cls ≠ "java/lang/invoke/MethodHandle" ∧ y_M_hasChild.cls ≠ "java/lang/invoke/VarHandle" ∧ (parseMethodDescriptor y_M_hasChild.desc).map (fun d => d.parameters.length) = some 2 := by decide +kernel
abbrev b_M_findBelow : ByteArray := prog_9_method_9_code
def y_M_findBelow : MethodName := ⟨"FaultTreeDeskModel", "findBelow", "()V"⟩
def w_M_findBelow : List Cond := Cond.code y_M_findBelow b_M_findBelow 3 none :: WS
set_option maxRecDepth 100000 in
theorem co_M_findBelow : Cond.code y_M_findBelow b_M_findBelow 3 none ∈ WS := ws_t (List.mem_of_getElem? (i := 732) rfl) rfl
theorem im_M_findBelow : Cond.instanceMethod y_M_findBelow ∈ WS := ws_t (List.mem_of_getElem? (i := 731) (by decide +kernel)) (by decide +kernel)
theorem se_M_findBelow : Cond.selects "FaultTreeDeskModel" y_M_findBelow y_M_findBelow ∈ WS := ws_p (List.mem_of_getElem? (i := 26) (by decide +kernel)) (by decide +kernel)
theorem cd_M_findBelow : y_M_findBelow.cls = R_M ∧ y_M_findBelow.cls ≠ "java/lang/invoke/MethodHandle" ∧ y_M_findBelow.cls ≠ "java/lang/invoke/VarHandle" ∧ (parseMethodDescriptor y_M_findBelow.desc).map (fun d => d.parameters.length) = some 0 := by decide +kernel
abbrev b_M_top : ByteArray := prog_9_method_12_code
def y_M_top : MethodName := ⟨"FaultTreeDeskModel", "top", "(I)V"⟩
def w_M_top : List Cond := Cond.code y_M_top b_M_top 2 none :: WS
set_option maxRecDepth 100000 in
theorem co_M_top : Cond.code y_M_top b_M_top 2 none ∈ WS := ws_t (List.mem_of_getElem? (i := 736) rfl) rfl
theorem im_M_top : Cond.instanceMethod y_M_top ∈ WS := ws_t (List.mem_of_getElem? (i := 734) (by decide +kernel)) (by decide +kernel)
theorem se_M_top : Cond.selects "FaultTreeDeskModel" y_M_top y_M_top ∈ WS := ws_t (List.mem_of_getElem? (i := 735) (by decide +kernel)) (by decide +kernel)
theorem cd_M_top : y_M_top.cls = R_M ∧ y_M_top.cls ≠ "java/lang/invoke/MethodHandle" ∧ y_M_top.cls ≠ "java/lang/invoke/VarHandle" ∧ (parseMethodDescriptor y_M_top.desc).map (fun d => d.parameters.length) = some 1 := by decide +kernel
abbrev b_M_value : ByteArray := prog_9_method_17_code
def y_M_value : MethodName := ⟨"FaultTreeDeskModel", "value", "(I)Z"⟩
def w_M_value : List Cond := Cond.code y_M_value b_M_value 2 (some .boolean) :: WS
set_option maxRecDepth 100000 in
theorem co_M_value : Cond.code y_M_value b_M_value 2 (some .boolean) ∈ WS := ws_t (List.mem_of_getElem? (i := 740) rfl) rfl
theorem im_M_value : Cond.instanceMethod y_M_value ∈ WS := ws_t (List.mem_of_getElem? (i := 738) (by decide +kernel)) (by decide +kernel)
theorem se_M_value : Cond.selects "FaultTreeDeskModel" y_M_value y_M_value ∈ WS := ws_t (List.mem_of_getElem? (i := 739) (by decide +kernel)) (by decide +kernel)
theorem cd_M_value : y_M_value.cls = R_M ∧ y_M_value.cls ≠ "java/lang/invoke/MethodHandle" ∧ y_M_value.cls ≠ "java/lang/invoke/VarHandle" ∧ (parseMethodDescriptor y_M_value.desc).map (fun d => d.parameters.length) = some 1 := by decide +kernel
abbrev b_M_lacks : ByteArray := prog_9_method_16_code
def y_M_lacks : MethodName := ⟨"FaultTreeDeskModel", "lacks", "(I)Z"⟩
def w_M_lacks : List Cond := Cond.code y_M_lacks b_M_lacks 2 (some .boolean) :: WS
set_option maxRecDepth 100000 in
theorem co_M_lacks : Cond.code y_M_lacks b_M_lacks 2 (some .boolean) ∈ WS := ws_t (List.mem_of_getElem? (i := 744) rfl) rfl
theorem im_M_lacks : Cond.instanceMethod y_M_lacks ∈ WS := ws_t (List.mem_of_getElem? (i := 743) (by decide +kernel)) (by decide +kernel)
theorem se_M_lacks : Cond.selects "FaultTreeDeskModel" y_M_lacks y_M_lacks ∈ WS := ws_p (List.mem_of_getElem? (i := 27) (by decide +kernel)) (by decide +kernel)
theorem cd_M_lacks : y_M_lacks.cls = R_M ∧ y_M_lacks.cls ≠ "java/lang/invoke/MethodHandle" ∧ y_M_lacks.cls ≠ "java/lang/invoke/VarHandle" ∧ (parseMethodDescriptor y_M_lacks.desc).map (fun d => d.parameters.length) = some 1 := by decide +kernel
abbrev b_M_work : ByteArray := prog_9_method_15_code
def y_M_work : MethodName := ⟨"FaultTreeDeskModel", "work", "()V"⟩
def w_M_work : List Cond := Cond.code y_M_work b_M_work 6 none :: WS
set_option maxRecDepth 100000 in
theorem co_M_work : Cond.code y_M_work b_M_work 6 none ∈ WS := ws_t (List.mem_of_getElem? (i := 748) rfl) rfl
theorem im_M_work : Cond.instanceMethod y_M_work ∈ WS := ws_t (List.mem_of_getElem? (i := 747) (by decide +kernel)) (by decide +kernel)
theorem se_M_work : Cond.selects "FaultTreeDeskModel" y_M_work y_M_work ∈ WS := ws_p (List.mem_of_getElem? (i := 28) (by decide +kernel)) (by decide +kernel)
theorem cd_M_work : y_M_work.cls = R_M ∧ y_M_work.cls ≠ "java/lang/invoke/MethodHandle" ∧ y_M_work.cls ≠ "java/lang/invoke/VarHandle" ∧ (parseMethodDescriptor y_M_work.desc).map (fun d => d.parameters.length) = some 0 := by decide +kernel
abbrev b_M_sort : ByteArray := prog_9_method_13_code
def y_M_sort : MethodName := ⟨"FaultTreeDeskModel", "sort", "()V"⟩
def w_M_sort : List Cond := Cond.code y_M_sort b_M_sort 6 none :: WS
set_option maxRecDepth 100000 in
theorem co_M_sort : Cond.code y_M_sort b_M_sort 6 none ∈ WS := ws_t (List.mem_of_getElem? (i := 752) rfl) rfl
theorem im_M_sort : Cond.instanceMethod y_M_sort ∈ WS := ws_t (List.mem_of_getElem? (i := 751) (by decide +kernel)) (by decide +kernel)
theorem se_M_sort : Cond.selects "FaultTreeDeskModel" y_M_sort y_M_sort ∈ WS := ws_p (List.mem_of_getElem? (i := 29) (by decide +kernel)) (by decide +kernel)
theorem cd_M_sort : y_M_sort.cls = R_M ∧ y_M_sort.cls ≠ "java/lang/invoke/MethodHandle" ∧ y_M_sort.cls ≠ "java/lang/invoke/VarHandle" ∧ (parseMethodDescriptor y_M_sort.desc).map (fun d => d.parameters.length) = some 0 := by decide +kernel
abbrev b_M_isOn : ByteArray := prog_9_method_14_code
def y_M_isOn : MethodName := ⟨"FaultTreeDeskModel", "isOn", "(II)Z"⟩
def w_M_isOn : List Cond := Cond.code y_M_isOn b_M_isOn 3 (some .boolean) :: WS
set_option maxRecDepth 100000 in
theorem co_M_isOn : Cond.code y_M_isOn b_M_isOn 3 (some .boolean) ∈ WS := ws_t (List.mem_of_getElem? (i := 756) rfl) rfl
theorem im_M_isOn : Cond.instanceMethod y_M_isOn ∈ WS := ws_t (List.mem_of_getElem? (i := 755) (by decide +kernel)) (by decide +kernel)
theorem se_M_isOn : Cond.selects "FaultTreeDeskModel" y_M_isOn y_M_isOn ∈ WS := ws_p (List.mem_of_getElem? (i := 30) (by decide +kernel)) (by decide +kernel)
theorem cd_M_isOn : y_M_isOn.cls = R_M ∧ y_M_isOn.cls ≠ "java/lang/invoke/MethodHandle" ∧ y_M_isOn.cls ≠ "java/lang/invoke/VarHandle" ∧ (parseMethodDescriptor y_M_isOn.desc).map (fun d => d.parameters.length) = some 2 := by decide +kernel
abbrev b_M_odds : ByteArray := prog_9_method_19_code
def y_M_odds : MethodName := ⟨"FaultTreeDeskModel", "odds", "()J"⟩
def w_M_odds : List Cond := Cond.code y_M_odds b_M_odds 1 (some .long) :: WS
set_option maxRecDepth 100000 in
theorem co_M_odds : Cond.code y_M_odds b_M_odds 1 (some .long) ∈ WS := ws_t (List.mem_of_getElem? (i := 760) rfl) rfl
theorem im_M_odds : Cond.instanceMethod y_M_odds ∈ WS := ws_t (List.mem_of_getElem? (i := 758) (by decide +kernel)) (by decide +kernel)
theorem se_M_odds : Cond.selects "FaultTreeDeskModel" y_M_odds y_M_odds ∈ WS := ws_t (List.mem_of_getElem? (i := 759) (by decide +kernel)) (by decide +kernel)
theorem cd_M_odds : y_M_odds.cls = R_M ∧ y_M_odds.cls ≠ "java/lang/invoke/MethodHandle" ∧ y_M_odds.cls ≠ "java/lang/invoke/VarHandle" ∧ (parseMethodDescriptor y_M_odds.desc).map (fun d => d.parameters.length) = some 0 := by decide +kernel
abbrev b_M_sum : ByteArray := prog_9_method_18_code
def y_M_sum : MethodName := ⟨"FaultTreeDeskModel", "sum", "()J"⟩
def w_M_sum : List Cond := Cond.code y_M_sum b_M_sum 9 (some .long) :: WS
set_option maxRecDepth 100000 in
theorem co_M_sum : Cond.code y_M_sum b_M_sum 9 (some .long) ∈ WS := ws_t (List.mem_of_getElem? (i := 764) rfl) rfl
theorem im_M_sum : Cond.instanceMethod y_M_sum ∈ WS := ws_t (List.mem_of_getElem? (i := 763) (by decide +kernel)) (by decide +kernel)
theorem se_M_sum : Cond.selects "FaultTreeDeskModel" y_M_sum y_M_sum ∈ WS := ws_p (List.mem_of_getElem? (i := 31) (by decide +kernel)) (by decide +kernel)
theorem cd_M_sum : y_M_sum.cls = R_M ∧ y_M_sum.cls ≠ "java/lang/invoke/MethodHandle" ∧ y_M_sum.cls ≠ "java/lang/invoke/VarHandle" ∧ (parseMethodDescriptor y_M_sum.desc).map (fun d => d.parameters.length) = some 0 := by decide +kernel
abbrev b_M_digit : ByteArray := prog_9_method_20_code
def y_M_digit : MethodName := ⟨"FaultTreeDeskModel", "digit", "(I)I"⟩
def w_M_digit : List Cond := Cond.code y_M_digit b_M_digit 8 (some .int) :: WS
set_option maxRecDepth 100000 in
theorem co_M_digit : Cond.code y_M_digit b_M_digit 8 (some .int) ∈ WS := ws_t (List.mem_of_getElem? (i := 768) rfl) rfl
theorem im_M_digit : Cond.instanceMethod y_M_digit ∈ WS := ws_t (List.mem_of_getElem? (i := 766) (by decide +kernel)) (by decide +kernel)
theorem se_M_digit : Cond.selects "FaultTreeDeskModel" y_M_digit y_M_digit ∈ WS := ws_t (List.mem_of_getElem? (i := 767) (by decide +kernel)) (by decide +kernel)
theorem cd_M_digit : y_M_digit.cls = R_M ∧ y_M_digit.cls ≠ "java/lang/invoke/MethodHandle" ∧ y_M_digit.cls ≠ "java/lang/invoke/VarHandle" ∧ (parseMethodDescriptor y_M_digit.desc).map (fun d => d.parameters.length) = some 1 := by decide +kernel
abbrev b_M_weight : ByteArray := prog_9_method_21_code
def y_M_weight : MethodName := ⟨"FaultTreeDeskModel", "weight", "(I)J"⟩
def w_M_weight : List Cond := Cond.code y_M_weight b_M_weight 5 (some .long) :: WS
set_option maxRecDepth 100000 in
theorem co_M_weight : Cond.code y_M_weight b_M_weight 5 (some .long) ∈ WS := ws_t (List.mem_of_getElem? (i := 773) rfl) rfl
theorem im_M_weight : Cond.instanceMethod y_M_weight ∈ WS := ws_t (List.mem_of_getElem? (i := 771) (by decide +kernel)) (by decide +kernel)
theorem se_M_weight : Cond.selects "FaultTreeDeskModel" y_M_weight y_M_weight ∈ WS := ws_t (List.mem_of_getElem? (i := 772) (by decide +kernel)) (by decide +kernel)
theorem cd_M_weight : y_M_weight.cls = R_M ∧ y_M_weight.cls ≠ "java/lang/invoke/MethodHandle" ∧ y_M_weight.cls ≠ "java/lang/invoke/VarHandle" ∧ (parseMethodDescriptor y_M_weight.desc).map (fun d => d.parameters.length) = some 1 := by decide +kernel
abbrev b_M_nodes : ByteArray := prog_9_method_24_code
def y_M_nodes : MethodName := ⟨"FaultTreeDeskModel", "nodes", "()I"⟩
def w_M_nodes : List Cond := Cond.code y_M_nodes b_M_nodes 6 (some .int) :: WS
set_option maxRecDepth 100000 in
theorem co_M_nodes : Cond.code y_M_nodes b_M_nodes 6 (some .int) ∈ WS := ws_t (List.mem_of_getElem? (i := 777) rfl) rfl
theorem im_M_nodes : Cond.instanceMethod y_M_nodes ∈ WS := ws_t (List.mem_of_getElem? (i := 775) (by decide +kernel)) (by decide +kernel)
theorem se_M_nodes : Cond.selects "FaultTreeDeskModel" y_M_nodes y_M_nodes ∈ WS := ws_t (List.mem_of_getElem? (i := 776) (by decide +kernel)) (by decide +kernel)
theorem cd_M_nodes : y_M_nodes.cls = R_M ∧ y_M_nodes.cls ≠ "java/lang/invoke/MethodHandle" ∧ y_M_nodes.cls ≠ "java/lang/invoke/VarHandle" ∧ (parseMethodDescriptor y_M_nodes.desc).map (fun d => d.parameters.length) = some 0 := by decide +kernel
abbrev b_M_matters : ByteArray := prog_9_method_23_code
def y_M_matters : MethodName := ⟨"FaultTreeDeskModel", "matters", "(II)Z"⟩
def w_M_matters : List Cond := Cond.code y_M_matters b_M_matters 5 (some .boolean) :: WS
set_option maxRecDepth 100000 in
theorem co_M_matters : Cond.code y_M_matters b_M_matters 5 (some .boolean) ∈ WS := ws_t (List.mem_of_getElem? (i := 781) rfl) rfl
theorem im_M_matters : Cond.instanceMethod y_M_matters ∈ WS := ws_t (List.mem_of_getElem? (i := 780) (by decide +kernel)) (by decide +kernel)
theorem se_M_matters : Cond.selects "FaultTreeDeskModel" y_M_matters y_M_matters ∈ WS := ws_p (List.mem_of_getElem? (i := 32) (by decide +kernel)) (by decide +kernel)
theorem cd_M_matters : y_M_matters.cls = R_M ∧ y_M_matters.cls ≠ "java/lang/invoke/MethodHandle" ∧ y_M_matters.cls ≠ "java/lang/invoke/VarHandle" ∧ (parseMethodDescriptor y_M_matters.desc).map (fun d => d.parameters.length) = some 2 := by decide +kernel
abbrev b_M_alike : ByteArray := prog_9_method_22_code
def y_M_alike : MethodName := ⟨"FaultTreeDeskModel", "alike", "(III)Z"⟩
def w_M_alike : List Cond := Cond.code y_M_alike b_M_alike 6 (some .boolean) :: WS
set_option maxRecDepth 100000 in
theorem co_M_alike : Cond.code y_M_alike b_M_alike 6 (some .boolean) ∈ WS := ws_t (List.mem_of_getElem? (i := 785) rfl) rfl
theorem im_M_alike : Cond.instanceMethod y_M_alike ∈ WS := ws_t (List.mem_of_getElem? (i := 784) (by decide +kernel)) (by decide +kernel)
theorem se_M_alike : Cond.selects "FaultTreeDeskModel" y_M_alike y_M_alike ∈ WS := ws_p (List.mem_of_getElem? (i := 33) (by decide +kernel)) (by decide +kernel)
theorem cd_M_alike : y_M_alike.cls = R_M ∧ y_M_alike.cls ≠ "java/lang/invoke/MethodHandle" ∧ y_M_alike.cls ≠ "java/lang/invoke/VarHandle" ∧ (parseMethodDescriptor y_M_alike.desc).map (fun d => d.parameters.length) = some 3 := by decide +kernel
abbrev b_M_primes : ByteArray := prog_9_method_35_code
def y_M_primes : MethodName := ⟨"FaultTreeDeskModel", "primes", "(I)I"⟩
def w_M_primes : List Cond := Cond.code y_M_primes b_M_primes 4 (some .int) :: WS
set_option maxRecDepth 100000 in
theorem co_M_primes : Cond.code y_M_primes b_M_primes 4 (some .int) ∈ WS := ws_t (List.mem_of_getElem? (i := 789) rfl) rfl
theorem im_M_primes : Cond.instanceMethod y_M_primes ∈ WS := ws_t (List.mem_of_getElem? (i := 787) (by decide +kernel)) (by decide +kernel)
theorem se_M_primes : Cond.selects "FaultTreeDeskModel" y_M_primes y_M_primes ∈ WS := ws_t (List.mem_of_getElem? (i := 788) (by decide +kernel)) (by decide +kernel)
theorem cd_M_primes : y_M_primes.cls = R_M ∧ y_M_primes.cls ≠ "java/lang/invoke/MethodHandle" ∧ y_M_primes.cls ≠ "java/lang/invoke/VarHandle" ∧ (parseMethodDescriptor y_M_primes.desc).map (fun d => d.parameters.length) = some 1 := by decide +kernel
abbrev b_M_fails : ByteArray := prog_9_method_34_code
def y_M_fails : MethodName := ⟨"FaultTreeDeskModel", "fails", "(I)Z"⟩
def w_M_fails : List Cond := Cond.code y_M_fails b_M_fails 2 (some .boolean) :: WS
set_option maxRecDepth 100000 in
theorem co_M_fails : Cond.code y_M_fails b_M_fails 2 (some .boolean) ∈ WS := ws_t (List.mem_of_getElem? (i := 793) rfl) rfl
theorem im_M_fails : Cond.instanceMethod y_M_fails ∈ WS := ws_t (List.mem_of_getElem? (i := 792) (by decide +kernel)) (by decide +kernel)
theorem se_M_fails : Cond.selects "FaultTreeDeskModel" y_M_fails y_M_fails ∈ WS := ws_p (List.mem_of_getElem? (i := 34) (by decide +kernel)) (by decide +kernel)
theorem cd_M_fails : y_M_fails.cls = R_M ∧ y_M_fails.cls ≠ "java/lang/invoke/MethodHandle" ∧ y_M_fails.cls ≠ "java/lang/invoke/VarHandle" ∧ (parseMethodDescriptor y_M_fails.desc).map (fun d => d.parameters.length) = some 1 := by decide +kernel
abbrev b_M_findPrimes : ByteArray := prog_9_method_33_code
def y_M_findPrimes : MethodName := ⟨"FaultTreeDeskModel", "findPrimes", "()Z"⟩
def w_M_findPrimes : List Cond := Cond.code y_M_findPrimes b_M_findPrimes 8 (some .boolean) :: WS
set_option maxRecDepth 100000 in
theorem co_M_findPrimes : Cond.code y_M_findPrimes b_M_findPrimes 8 (some .boolean) ∈ WS := ws_t (List.mem_of_getElem? (i := 797) rfl) rfl
theorem im_M_findPrimes : Cond.instanceMethod y_M_findPrimes ∈ WS := ws_t (List.mem_of_getElem? (i := 796) (by decide +kernel)) (by decide +kernel)
theorem se_M_findPrimes : Cond.selects "FaultTreeDeskModel" y_M_findPrimes y_M_findPrimes ∈ WS := ws_p (List.mem_of_getElem? (i := 35) (by decide +kernel)) (by decide +kernel)
theorem cd_M_findPrimes : y_M_findPrimes.cls = R_M ∧ y_M_findPrimes.cls ≠ "java/lang/invoke/MethodHandle" ∧ y_M_findPrimes.cls ≠ "java/lang/invoke/VarHandle" ∧ (parseMethodDescriptor y_M_findPrimes.desc).map (fun d => d.parameters.length) = some 0 := by decide +kernel
abbrev b_M_power : ByteArray := prog_9_method_25_code
def y_M_power : MethodName := ⟨"FaultTreeDeskModel", "power", "(I)I"⟩
def w_M_power : List Cond := Cond.code y_M_power b_M_power 3 (some .int) :: WS
set_option maxRecDepth 100000 in
theorem co_M_power : Cond.code y_M_power b_M_power 3 (some .int) ∈ WS := ws_t (List.mem_of_getElem? (i := 800) rfl) rfl
theorem sm_M_power : Cond.static y_M_power ∈ WS := ws_t (List.mem_of_getElem? (i := 799) (by decide +kernel)) (by decide +kernel)
theorem ce_M_power : y_M_power.cls ≠ "java/lang/invoke/MethodHandle" ∧ y_M_power.cls ≠ "java/lang/invoke/VarHandle" ∧ (parseMethodDescriptor y_M_power.desc).map (fun d => d.parameters.length) = some 1 := by decide +kernel
theorem cd_M_power : y_M_power.cls = R_M ∧ y_M_power.cls ≠ "java/lang/invoke/MethodHandle" ∧ y_M_power.cls ≠ "java/lang/invoke/VarHandle" ∧ (parseMethodDescriptor y_M_power.desc).map (fun d => d.parameters.length) = some 1 := by decide +kernel
abbrev b_M_settingOf : ByteArray := prog_9_method_27_code
def y_M_settingOf : MethodName := ⟨"FaultTreeDeskModel", "settingOf", "(I)I"⟩
def w_M_settingOf : List Cond := Cond.code y_M_settingOf b_M_settingOf 5 (some .int) :: WS
set_option maxRecDepth 100000 in
theorem co_M_settingOf : Cond.code y_M_settingOf b_M_settingOf 5 (some .int) ∈ WS := ws_t (List.mem_of_getElem? (i := 804) rfl) rfl
theorem im_M_settingOf : Cond.instanceMethod y_M_settingOf ∈ WS := ws_t (List.mem_of_getElem? (i := 803) (by decide +kernel)) (by decide +kernel)
theorem se_M_settingOf : Cond.selects "FaultTreeDeskModel" y_M_settingOf y_M_settingOf ∈ WS := ws_p (List.mem_of_getElem? (i := 36) (by decide +kernel)) (by decide +kernel)
theorem cd_M_settingOf : y_M_settingOf.cls = R_M ∧ y_M_settingOf.cls ≠ "java/lang/invoke/MethodHandle" ∧ y_M_settingOf.cls ≠ "java/lang/invoke/VarHandle" ∧ (parseMethodDescriptor y_M_settingOf.desc).map (fun d => d.parameters.length) = some 1 := by decide +kernel
abbrev b_M_isCause : ByteArray := prog_9_method_26_code
def y_M_isCause : MethodName := ⟨"FaultTreeDeskModel", "isCause", "(I)Z"⟩
def w_M_isCause : List Cond := Cond.code y_M_isCause b_M_isCause 2 (some .boolean) :: WS
set_option maxRecDepth 100000 in
theorem co_M_isCause : Cond.code y_M_isCause b_M_isCause 2 (some .boolean) ∈ WS := ws_t (List.mem_of_getElem? (i := 808) rfl) rfl
theorem im_M_isCause : Cond.instanceMethod y_M_isCause ∈ WS := ws_t (List.mem_of_getElem? (i := 807) (by decide +kernel)) (by decide +kernel)
theorem se_M_isCause : Cond.selects "FaultTreeDeskModel" y_M_isCause y_M_isCause ∈ WS := ws_p (List.mem_of_getElem? (i := 37) (by decide +kernel)) (by decide +kernel)
theorem cd_M_isCause : y_M_isCause.cls = R_M ∧ y_M_isCause.cls ≠ "java/lang/invoke/MethodHandle" ∧ y_M_isCause.cls ≠ "java/lang/invoke/VarHandle" ∧ (parseMethodDescriptor y_M_isCause.desc).map (fun d => d.parameters.length) = some 1 := by decide +kernel
abbrev b_M_isPrime : ByteArray := prog_9_method_28_code
def y_M_isPrime : MethodName := ⟨"FaultTreeDeskModel", "isPrime", "(I)Z"⟩
def w_M_isPrime : List Cond := Cond.code y_M_isPrime b_M_isPrime 7 (some .boolean) :: WS
set_option maxRecDepth 100000 in
theorem co_M_isPrime : Cond.code y_M_isPrime b_M_isPrime 7 (some .boolean) ∈ WS := ws_t (List.mem_of_getElem? (i := 813) rfl) rfl
theorem im_M_isPrime : Cond.instanceMethod y_M_isPrime ∈ WS := ws_t (List.mem_of_getElem? (i := 812) (by decide +kernel)) (by decide +kernel)
theorem se_M_isPrime : Cond.selects "FaultTreeDeskModel" y_M_isPrime y_M_isPrime ∈ WS := ws_p (List.mem_of_getElem? (i := 38) (by decide +kernel)) (by decide +kernel)
theorem cd_M_isPrime : y_M_isPrime.cls = R_M ∧ y_M_isPrime.cls ≠ "java/lang/invoke/MethodHandle" ∧ y_M_isPrime.cls ≠ "java/lang/invoke/VarHandle" ∧ (parseMethodDescriptor y_M_isPrime.desc).map (fun d => d.parameters.length) = some 1 := by decide +kernel
abbrev b_M_eventsOf : ByteArray := prog_9_method_29_code
def y_M_eventsOf : MethodName := ⟨"FaultTreeDeskModel", "eventsOf", "(II)I"⟩
def w_M_eventsOf : List Cond := Cond.code y_M_eventsOf b_M_eventsOf 6 (some .int) :: WS
set_option maxRecDepth 100000 in
theorem co_M_eventsOf : Cond.code y_M_eventsOf b_M_eventsOf 6 (some .int) ∈ WS := ws_t (List.mem_of_getElem? (i := 817) rfl) rfl
theorem im_M_eventsOf : Cond.instanceMethod y_M_eventsOf ∈ WS := ws_t (List.mem_of_getElem? (i := 816) (by decide +kernel)) (by decide +kernel)
theorem se_M_eventsOf : Cond.selects "FaultTreeDeskModel" y_M_eventsOf y_M_eventsOf ∈ WS := ws_p (List.mem_of_getElem? (i := 39) (by decide +kernel)) (by decide +kernel)
theorem cd_M_eventsOf : y_M_eventsOf.cls = R_M ∧ y_M_eventsOf.cls ≠ "java/lang/invoke/MethodHandle" ∧ y_M_eventsOf.cls ≠ "java/lang/invoke/VarHandle" ∧ (parseMethodDescriptor y_M_eventsOf.desc).map (fun d => d.parameters.length) = some 2 := by decide +kernel
abbrev b_M_keep : ByteArray := prog_9_method_32_code
def y_M_keep : MethodName := ⟨"FaultTreeDeskModel", "keep", "(II)V"⟩
def w_M_keep : List Cond := Cond.code y_M_keep b_M_keep 4 none :: WS
set_option maxRecDepth 100000 in
theorem co_M_keep : Cond.code y_M_keep b_M_keep 4 none ∈ WS := ws_t (List.mem_of_getElem? (i := 821) rfl) rfl
theorem im_M_keep : Cond.instanceMethod y_M_keep ∈ WS := ws_t (List.mem_of_getElem? (i := 820) (by decide +kernel)) (by decide +kernel)
theorem se_M_keep : Cond.selects "FaultTreeDeskModel" y_M_keep y_M_keep ∈ WS := ws_p (List.mem_of_getElem? (i := 40) (by decide +kernel)) (by decide +kernel)
theorem cd_M_keep : y_M_keep.cls = R_M ∧ y_M_keep.cls ≠ "java/lang/invoke/MethodHandle" ∧ y_M_keep.cls ≠ "java/lang/invoke/VarHandle" ∧ (parseMethodDescriptor y_M_keep.desc).map (fun d => d.parameters.length) = some 2 := by decide +kernel
abbrev b_M_isBefore : ByteArray := prog_9_method_31_code
def y_M_isBefore : MethodName := ⟨"FaultTreeDeskModel", "isBefore", "(IIII)Z"⟩
def w_M_isBefore : List Cond := Cond.code y_M_isBefore b_M_isBefore 5 (some .boolean) :: WS
set_option maxRecDepth 100000 in
theorem co_M_isBefore : Cond.code y_M_isBefore b_M_isBefore 5 (some .boolean) ∈ WS := ws_t (List.mem_of_getElem? (i := 824) rfl) rfl
theorem sm_M_isBefore : Cond.static y_M_isBefore ∈ WS := ws_t (List.mem_of_getElem? (i := 823) (by decide +kernel)) (by decide +kernel)
theorem ce_M_isBefore : y_M_isBefore.cls ≠ "java/lang/invoke/MethodHandle" ∧ y_M_isBefore.cls ≠ "java/lang/invoke/VarHandle" ∧ (parseMethodDescriptor y_M_isBefore.desc).map (fun d => d.parameters.length) = some 4 := by decide +kernel
theorem cd_M_isBefore : y_M_isBefore.cls = R_M ∧ y_M_isBefore.cls ≠ "java/lang/invoke/MethodHandle" ∧ y_M_isBefore.cls ≠ "java/lang/invoke/VarHandle" ∧ (parseMethodDescriptor y_M_isBefore.desc).map (fun d => d.parameters.length) = some 4 := by decide +kernel
abbrev b_M_size : ByteArray := prog_9_method_30_code
def y_M_size : MethodName := ⟨"FaultTreeDeskModel", "size", "(I)I"⟩
def w_M_size : List Cond := Cond.code y_M_size b_M_size 3 (some .int) :: WS
set_option maxRecDepth 100000 in
theorem co_M_size : Cond.code y_M_size b_M_size 3 (some .int) ∈ WS := ws_t (List.mem_of_getElem? (i := 827) rfl) rfl
theorem sm_M_size : Cond.static y_M_size ∈ WS := ws_t (List.mem_of_getElem? (i := 826) (by decide +kernel)) (by decide +kernel)
theorem ce_M_size : y_M_size.cls ≠ "java/lang/invoke/MethodHandle" ∧ y_M_size.cls ≠ "java/lang/invoke/VarHandle" ∧ (parseMethodDescriptor y_M_size.desc).map (fun d => d.parameters.length) = some 1 := by decide +kernel
theorem cd_M_size : y_M_size.cls = R_M ∧ y_M_size.cls ≠ "java/lang/invoke/MethodHandle" ∧ y_M_size.cls ≠ "java/lang/invoke/VarHandle" ∧ (parseMethodDescriptor y_M_size.desc).map (fun d => d.parameters.length) = some 1 := by decide +kernel
abbrev b_M_prime : ByteArray := prog_9_method_36_code
def y_M_prime : MethodName := ⟨"FaultTreeDeskModel", "prime", "(II)I"⟩
def w_M_prime : List Cond := Cond.code y_M_prime b_M_prime 3 (some .int) :: WS
set_option maxRecDepth 100000 in
theorem co_M_prime : Cond.code y_M_prime b_M_prime 3 (some .int) ∈ WS := ws_t (List.mem_of_getElem? (i := 831) rfl) rfl
theorem im_M_prime : Cond.instanceMethod y_M_prime ∈ WS := ws_t (List.mem_of_getElem? (i := 829) (by decide +kernel)) (by decide +kernel)
theorem se_M_prime : Cond.selects "FaultTreeDeskModel" y_M_prime y_M_prime ∈ WS := ws_t (List.mem_of_getElem? (i := 830) (by decide +kernel)) (by decide +kernel)
theorem cd_M_prime : y_M_prime.cls = R_M ∧ y_M_prime.cls ≠ "java/lang/invoke/MethodHandle" ∧ y_M_prime.cls ≠ "java/lang/invoke/VarHandle" ∧ (parseMethodDescriptor y_M_prime.desc).map (fun d => d.parameters.length) = some 2 := by decide +kernel
abbrev b_M_share : ByteArray := prog_9_method_37_code
def y_M_share : MethodName := ⟨"FaultTreeDeskModel", "share", "(I)I"⟩
def w_M_share : List Cond := Cond.code y_M_share b_M_share 4 (some .int) :: WS
set_option maxRecDepth 100000 in
theorem co_M_share : Cond.code y_M_share b_M_share 4 (some .int) ∈ WS := ws_t (List.mem_of_getElem? (i := 835) rfl) rfl
theorem im_M_share : Cond.instanceMethod y_M_share ∈ WS := ws_t (List.mem_of_getElem? (i := 833) (by decide +kernel)) (by decide +kernel)
theorem se_M_share : Cond.selects "FaultTreeDeskModel" y_M_share y_M_share ∈ WS := ws_t (List.mem_of_getElem? (i := 834) (by decide +kernel)) (by decide +kernel)
theorem cd_M_share : y_M_share.cls = R_M ∧ y_M_share.cls ≠ "java/lang/invoke/MethodHandle" ∧ y_M_share.cls ≠ "java/lang/invoke/VarHandle" ∧ (parseMethodDescriptor y_M_share.desc).map (fun d => d.parameters.length) = some 1 := by decide +kernel
abbrev b_M_modules : ByteArray := prog_9_method_39_code
def y_M_modules : MethodName := ⟨"FaultTreeDeskModel", "modules", "()I"⟩
def w_M_modules : List Cond := Cond.code y_M_modules b_M_modules 7 (some .int) :: WS
set_option maxRecDepth 100000 in
theorem co_M_modules : Cond.code y_M_modules b_M_modules 7 (some .int) ∈ WS := ws_t (List.mem_of_getElem? (i := 839) rfl) rfl
theorem im_M_modules : Cond.instanceMethod y_M_modules ∈ WS := ws_t (List.mem_of_getElem? (i := 837) (by decide +kernel)) (by decide +kernel)
theorem se_M_modules : Cond.selects "FaultTreeDeskModel" y_M_modules y_M_modules ∈ WS := ws_t (List.mem_of_getElem? (i := 838) (by decide +kernel)) (by decide +kernel)
theorem cd_M_modules : y_M_modules.cls = R_M ∧ y_M_modules.cls ≠ "java/lang/invoke/MethodHandle" ∧ y_M_modules.cls ≠ "java/lang/invoke/VarHandle" ∧ (parseMethodDescriptor y_M_modules.desc).map (fun d => d.parameters.length) = some 0 := by decide +kernel
abbrev b_M_isUnder : ByteArray := prog_9_method_38_code
def y_M_isUnder : MethodName := ⟨"FaultTreeDeskModel", "isUnder", "(II)Z"⟩
def w_M_isUnder : List Cond := Cond.code y_M_isUnder b_M_isUnder 5 (some .boolean) :: WS
set_option maxRecDepth 100000 in
theorem co_M_isUnder : Cond.code y_M_isUnder b_M_isUnder 5 (some .boolean) ∈ WS := ws_t (List.mem_of_getElem? (i := 843) rfl) rfl
theorem im_M_isUnder : Cond.instanceMethod y_M_isUnder ∈ WS := ws_t (List.mem_of_getElem? (i := 842) (by decide +kernel)) (by decide +kernel)
theorem se_M_isUnder : Cond.selects "FaultTreeDeskModel" y_M_isUnder y_M_isUnder ∈ WS := ws_p (List.mem_of_getElem? (i := 41) (by decide +kernel)) (by decide +kernel)
theorem cd_M_isUnder : y_M_isUnder.cls = R_M ∧ y_M_isUnder.cls ≠ "java/lang/invoke/MethodHandle" ∧ y_M_isUnder.cls ≠ "java/lang/invoke/VarHandle" ∧ (parseMethodDescriptor y_M_isUnder.desc).map (fun d => d.parameters.length) = some 2 := by decide +kernel
theorem ml_F_62 : Cond.methodLink "FaultTreeDesk" 62 y_F_needChance ∈ WS := ws_t (List.mem_of_getElem? (i := 196) (by decide +kernel)) (by decide +kernel)
theorem ml_F_76 : Cond.methodLink "FaultTreeDesk" 76 y_F_forgetAnswers ∈ WS := ws_t (List.mem_of_getElem? (i := 285) (by decide +kernel)) (by decide +kernel)
theorem ml_F_79 : Cond.methodLink "FaultTreeDesk" 79 y_E_add ∈ WS := ws_t (List.mem_of_getElem? (i := 289) (by decide +kernel)) (by decide +kernel)
theorem ml_F_83 : Cond.methodLink "FaultTreeDesk" 83 y_F_needEvent ∈ WS := ws_t (List.mem_of_getElem? (i := 300) (by decide +kernel)) (by decide +kernel)
theorem ml_F_111 : Cond.methodLink "FaultTreeDesk" 111 y_E_has ∈ WS := ws_t (List.mem_of_getElem? (i := 304) (by decide +kernel)) (by decide +kernel)
theorem ml_F_105 : Cond.methodLink "FaultTreeDesk" 105 y_G_add ∈ WS := ws_t (List.mem_of_getElem? (i := 327) (by decide +kernel)) (by decide +kernel)
theorem ml_F_108 : Cond.methodLink "FaultTreeDesk" 108 y_F_needGate ∈ WS := ws_t (List.mem_of_getElem? (i := 339) (by decide +kernel)) (by decide +kernel)
theorem ml_F_199 : Cond.methodLink "FaultTreeDesk" 199 y_G_has ∈ WS := ws_t (List.mem_of_getElem? (i := 343) (by decide +kernel)) (by decide +kernel)
theorem ml_F_115 : Cond.methodLink "FaultTreeDesk" 115 y_G_hasCode ∈ WS := ws_t (List.mem_of_getElem? (i := 348) (by decide +kernel)) (by decide +kernel)
theorem ml_F_120 : Cond.methodLink "FaultTreeDesk" 120 y_G_isChild ∈ WS := ws_t (List.mem_of_getElem? (i := 353) (by decide +kernel)) (by decide +kernel)
theorem ml_F_124 : Cond.methodLink "FaultTreeDesk" 124 y_G_isFull ∈ WS := ws_t (List.mem_of_getElem? (i := 357) (by decide +kernel)) (by decide +kernel)
theorem ml_G_28 : Cond.methodLink "FaultTreeDesk$Gates" 28 y_JI_bitCount ∈ WS := ws_t (List.mem_of_getElem? (i := 361) (by decide +kernel)) (by decide +kernel)
theorem ml_F_129 : Cond.methodLink "FaultTreeDesk" 129 y_G_wouldLoop ∈ WS := ws_t (List.mem_of_getElem? (i := 368) (by decide +kernel)) (by decide +kernel)
theorem ml_G_34 : Cond.methodLink "FaultTreeDesk$Gates" 34 y_G_withBelow ∈ WS := ws_t (List.mem_of_getElem? (i := 372) (by decide +kernel)) (by decide +kernel)
theorem ml_F_137 : Cond.methodLink "FaultTreeDesk" 137 y_G_join ∈ WS := ws_t (List.mem_of_getElem? (i := 392) (by decide +kernel)) (by decide +kernel)
theorem ml_F_140 : Cond.methodLink "FaultTreeDesk" 140 y_F_needTop ∈ WS := ws_t (List.mem_of_getElem? (i := 410) (by decide +kernel)) (by decide +kernel)
theorem ml_F_143 : Cond.methodLink "FaultTreeDesk" 143 y_F_freshenTruth ∈ WS := ws_t (List.mem_of_getElem? (i := 415) (by decide +kernel)) (by decide +kernel)
theorem ml_F_159 : Cond.methodLink "FaultTreeDesk" 159 y_T_fill ∈ WS := ws_t (List.mem_of_getElem? (i := 419) (by decide +kernel)) (by decide +kernel)
theorem ml_T_35 : Cond.methodLink "FaultTreeDesk$Truth" 35 Lib.Math.max.name ∈ WS := ws_t (List.mem_of_getElem? (i := 423) (by decide +kernel)) (by decide +kernel)
theorem ml_T_44 : Cond.methodLink "FaultTreeDesk$Truth" 44 y_T_fillEvent ∈ WS := ws_t (List.mem_of_getElem? (i := 426) (by decide +kernel)) (by decide +kernel)
theorem ml_T_48 : Cond.methodLink "FaultTreeDesk$Truth" 48 y_T_fillGates ∈ WS := ws_t (List.mem_of_getElem? (i := 433) (by decide +kernel)) (by decide +kernel)
theorem ml_T_58 : Cond.methodLink "FaultTreeDesk$Truth" 58 y_G_withBelow ∈ WS := ws_t (List.mem_of_getElem? (i := 437) (by decide +kernel)) (by decide +kernel)
theorem ml_T_68 : Cond.methodLink "FaultTreeDesk$Truth" 68 y_T_fillGate ∈ WS := ws_t (List.mem_of_getElem? (i := 438) (by decide +kernel)) (by decide +kernel)
theorem ml_T_75 : Cond.methodLink "FaultTreeDesk$Truth" 75 y_T_listInputs ∈ WS := ws_t (List.mem_of_getElem? (i := 442) (by decide +kernel)) (by decide +kernel)
theorem ml_T_81 : Cond.methodLink "FaultTreeDesk$Truth" 81 y_T_oddWord ∈ WS := ws_t (List.mem_of_getElem? (i := 446) (by decide +kernel)) (by decide +kernel)
theorem ml_T_85 : Cond.methodLink "FaultTreeDesk$Truth" 85 y_T_atLeastWord ∈ WS := ws_t (List.mem_of_getElem? (i := 450) (by decide +kernel)) (by decide +kernel)
theorem ml_F_146 : Cond.methodLink "FaultTreeDesk" 146 y_T_isTrue ∈ WS := ws_t (List.mem_of_getElem? (i := 454) (by decide +kernel)) (by decide +kernel)
theorem ml_F_149 : Cond.methodLink "FaultTreeDesk" 149 y_O_total ∈ WS := ws_t (List.mem_of_getElem? (i := 465) (by decide +kernel)) (by decide +kernel)
theorem ml_O_21 : Cond.methodLink "FaultTreeDesk$Odds" 21 y_T_isTrue ∈ WS := ws_t (List.mem_of_getElem? (i := 469) (by decide +kernel)) (by decide +kernel)
theorem ml_F_155 : Cond.methodLink "FaultTreeDesk" 155 y_O_decimal ∈ WS := ws_t (List.mem_of_getElem? (i := 478) (by decide +kernel)) (by decide +kernel)
theorem ml_F_163 : Cond.methodLink "FaultTreeDesk" 163 y_D_countNodes ∈ WS := ws_t (List.mem_of_getElem? (i := 497) (by decide +kernel)) (by decide +kernel)
theorem ml_D_22 : Cond.methodLink "FaultTreeDesk$Diagram" 22 y_T_isTrue ∈ WS := ws_t (List.mem_of_getElem? (i := 501) (by decide +kernel)) (by decide +kernel)
theorem ml_D_28 : Cond.methodLink "FaultTreeDesk$Diagram" 28 y_D_numberOf ∈ WS := ws_t (List.mem_of_getElem? (i := 502) (by decide +kernel)) (by decide +kernel)
theorem ml_F_169 : Cond.methodLink "FaultTreeDesk" 169 y_F_needTerms ∈ WS := ws_t (List.mem_of_getElem? (i := 514) (by decide +kernel)) (by decide +kernel)
theorem ml_F_204 : Cond.methodLink "FaultTreeDesk" 204 y_X_find ∈ WS := ws_t (List.mem_of_getElem? (i := 518) (by decide +kernel)) (by decide +kernel)
theorem ml_X_40 : Cond.methodLink "FaultTreeDesk$Terms" 40 y_X_walk ∈ WS := ws_t (List.mem_of_getElem? (i := 522) (by decide +kernel)) (by decide +kernel)
theorem ml_X_51 : Cond.methodLink "FaultTreeDesk$Terms" 51 y_X_collect ∈ WS := ws_t (List.mem_of_getElem? (i := 526) (by decide +kernel)) (by decide +kernel)
theorem ml_X_69 : Cond.methodLink "FaultTreeDesk$Terms" 69 y_X_allKeptOrOff ∈ WS := ws_t (List.mem_of_getElem? (i := 530) (by decide +kernel)) (by decide +kernel)
theorem ml_X_73 : Cond.methodLink "FaultTreeDesk$Terms" 73 y_X_primeSettings ∈ WS := ws_t (List.mem_of_getElem? (i := 536) (by decide +kernel)) (by decide +kernel)
theorem ml_X_55 : Cond.methodLink "FaultTreeDesk$Terms" 55 y_X_flipped ∈ WS := ws_t (List.mem_of_getElem? (i := 540) (by decide +kernel)) (by decide +kernel)
theorem ml_X_77 : Cond.methodLink "FaultTreeDesk$Terms" 77 y_X_addAll ∈ WS := ws_t (List.mem_of_getElem? (i := 544) (by decide +kernel)) (by decide +kernel)
theorem ml_X_83 : Cond.methodLink "FaultTreeDesk$Terms" 83 y_JL_bitCount ∈ WS := ws_t (List.mem_of_getElem? (i := 548) (by decide +kernel)) (by decide +kernel)
theorem ml_X_89 : Cond.methodLink "FaultTreeDesk$Terms" 89 y_JI_bitCount ∈ WS := ws_t (List.mem_of_getElem? (i := 554) (by decide +kernel)) (by decide +kernel)
theorem ml_X_93 : Cond.methodLink "FaultTreeDesk$Terms" 93 y_X_insert ∈ WS := ws_t (List.mem_of_getElem? (i := 555) (by decide +kernel)) (by decide +kernel)
theorem ml_F_172 : Cond.methodLink "FaultTreeDesk" 172 y_X_countUpTo ∈ WS := ws_t (List.mem_of_getElem? (i := 563) (by decide +kernel)) (by decide +kernel)
theorem ml_F_183 : Cond.methodLink "FaultTreeDesk" 183 y_X_onOf ∈ WS := ws_t (List.mem_of_getElem? (i := 592) (by decide +kernel)) (by decide +kernel)
theorem ml_F_186 : Cond.methodLink "FaultTreeDesk" 186 y_X_offOf ∈ WS := ws_t (List.mem_of_getElem? (i := 596) (by decide +kernel)) (by decide +kernel)
theorem ml_F_189 : Cond.methodLink "FaultTreeDesk" 189 y_X_countWith ∈ WS := ws_t (List.mem_of_getElem? (i := 607) (by decide +kernel)) (by decide +kernel)
theorem ml_X_44 : Cond.methodLink "FaultTreeDesk$Terms" 44 y_X_onOf ∈ WS := ws_t (List.mem_of_getElem? (i := 611) (by decide +kernel)) (by decide +kernel)
theorem ml_X_48 : Cond.methodLink "FaultTreeDesk$Terms" 48 y_X_offOf ∈ WS := ws_t (List.mem_of_getElem? (i := 612) (by decide +kernel)) (by decide +kernel)
theorem ml_F_192 : Cond.methodLink "FaultTreeDesk" 192 y_G_moduleSum ∈ WS := ws_t (List.mem_of_getElem? (i := 620) (by decide +kernel)) (by decide +kernel)
theorem ml_G_37 : Cond.methodLink "FaultTreeDesk$Gates" 37 y_G_standsAlone ∈ WS := ws_t (List.mem_of_getElem? (i := 624) (by decide +kernel)) (by decide +kernel)
theorem ml_M_67 : Cond.methodLink "FaultTreeDeskModel" 67 y_M_isEvent ∈ WS := ws_t (List.mem_of_getElem? (i := 705) (by decide +kernel)) (by decide +kernel)
theorem ml_M_71 : Cond.methodLink "FaultTreeDeskModel" 71 y_M_isGate ∈ WS := ws_t (List.mem_of_getElem? (i := 721) (by decide +kernel)) (by decide +kernel)
theorem ml_M_74 : Cond.methodLink "FaultTreeDeskModel" 74 y_M_hasChild ∈ WS := ws_t (List.mem_of_getElem? (i := 725) (by decide +kernel)) (by decide +kernel)
theorem ml_M_78 : Cond.methodLink "FaultTreeDeskModel" 78 y_M_findBelow ∈ WS := ws_t (List.mem_of_getElem? (i := 729) (by decide +kernel)) (by decide +kernel)
theorem ml_M_90 : Cond.methodLink "FaultTreeDeskModel" 90 y_M_lacks ∈ WS := ws_t (List.mem_of_getElem? (i := 741) (by decide +kernel)) (by decide +kernel)
theorem ml_M_87 : Cond.methodLink "FaultTreeDeskModel" 87 y_M_work ∈ WS := ws_t (List.mem_of_getElem? (i := 745) (by decide +kernel)) (by decide +kernel)
theorem ml_M_81 : Cond.methodLink "FaultTreeDeskModel" 81 y_M_sort ∈ WS := ws_t (List.mem_of_getElem? (i := 749) (by decide +kernel)) (by decide +kernel)
theorem ml_M_84 : Cond.methodLink "FaultTreeDeskModel" 84 y_M_isOn ∈ WS := ws_t (List.mem_of_getElem? (i := 753) (by decide +kernel)) (by decide +kernel)
theorem ml_M_93 : Cond.methodLink "FaultTreeDeskModel" 93 y_M_sum ∈ WS := ws_t (List.mem_of_getElem? (i := 761) (by decide +kernel)) (by decide +kernel)
theorem ml_M_99 : Cond.methodLink "FaultTreeDeskModel" 99 y_M_matters ∈ WS := ws_t (List.mem_of_getElem? (i := 778) (by decide +kernel)) (by decide +kernel)
theorem ml_M_102 : Cond.methodLink "FaultTreeDeskModel" 102 y_M_alike ∈ WS := ws_t (List.mem_of_getElem? (i := 782) (by decide +kernel)) (by decide +kernel)
theorem ml_M_143 : Cond.methodLink "FaultTreeDeskModel" 143 y_M_fails ∈ WS := ws_t (List.mem_of_getElem? (i := 790) (by decide +kernel)) (by decide +kernel)
theorem ml_M_139 : Cond.methodLink "FaultTreeDeskModel" 139 y_M_findPrimes ∈ WS := ws_t (List.mem_of_getElem? (i := 794) (by decide +kernel)) (by decide +kernel)
theorem ml_M_120 : Cond.methodLink "FaultTreeDeskModel" 120 y_M_power ∈ WS := ws_t (List.mem_of_getElem? (i := 798) (by decide +kernel)) (by decide +kernel)
theorem ml_M_123 : Cond.methodLink "FaultTreeDeskModel" 123 y_M_settingOf ∈ WS := ws_t (List.mem_of_getElem? (i := 801) (by decide +kernel)) (by decide +kernel)
theorem ml_M_106 : Cond.methodLink "FaultTreeDeskModel" 106 y_M_isCause ∈ WS := ws_t (List.mem_of_getElem? (i := 805) (by decide +kernel)) (by decide +kernel)
theorem ml_M_128 : Cond.methodLink "FaultTreeDeskModel" 128 y_M_isPrime ∈ WS := ws_t (List.mem_of_getElem? (i := 810) (by decide +kernel)) (by decide +kernel)
theorem ml_M_131 : Cond.methodLink "FaultTreeDeskModel" 131 y_M_eventsOf ∈ WS := ws_t (List.mem_of_getElem? (i := 814) (by decide +kernel)) (by decide +kernel)
theorem ml_M_135 : Cond.methodLink "FaultTreeDeskModel" 135 y_M_keep ∈ WS := ws_t (List.mem_of_getElem? (i := 818) (by decide +kernel)) (by decide +kernel)
theorem ml_M_116 : Cond.methodLink "FaultTreeDeskModel" 116 y_M_isBefore ∈ WS := ws_t (List.mem_of_getElem? (i := 822) (by decide +kernel)) (by decide +kernel)
theorem ml_M_109 : Cond.methodLink "FaultTreeDeskModel" 109 y_M_size ∈ WS := ws_t (List.mem_of_getElem? (i := 825) (by decide +kernel)) (by decide +kernel)
theorem ml_M_146 : Cond.methodLink "FaultTreeDeskModel" 146 y_M_isUnder ∈ WS := ws_t (List.mem_of_getElem? (i := 840) (by decide +kernel)) (by decide +kernel)
end
section
/-! more rules: ldc_w, switches -/
def R_JI : String := "java/lang/Integer"
def R_JL : String := "java/lang/Long"
section AW
variable {p : Program} {l : Launch} {e : Env} {R : Room} {s : State} {m : MethodId} {args : Array Value} {below : List Frame} {meth : Method} {c : Code} {cells slots : Nat} {Q : State → Prop}
variable {D : va_G} {cl : List vw_C} {ca : Nat → Nat} {A : Nat → Prop} {ad : Nat → Nat} {cc : ByteArray} {nL : Nat} {own : String} {Ts : List Cond}
variable {pc : Nat} {L L' : List (Option Value)} {st : List Value} {w w' : List va_E}
theorem av_ldcw (K : av_K p s m args meth c D cl ca A cc nL own Ts) {index : Nat} {v : Int32} (hc : Cond.constant own index v ∈ Ts) (hd : decode cc pc = .ok (.ldc_w index, 3)) (k : av_V p l e R s m args below meth c D cl A ad ca nL Q cells slots (pc + 3) L (.int v :: st) w) : av_V p l e R s m args below meth c D cl A ad ca nL Q cells slots pc L st w := fun H locs ls hP hD hS hL => lv_ldcw K.1 K.2.1 K.2.2.2.1 (K.2.2.2.2.1 _ hc) hd (k H locs ls hP hD hS hL)
theorem av_tswI (K : av_K p s m args meth c D cl ca A cc nL own Ts) {dflt lo hi : Int} {offs : Array Int} {len : Nat} {x : Int32} {off : Int} {tgt : Nat} (hd : decode cc pc = .ok (.tableswitch dflt lo hi offs, len)) (h1 : ¬ x.toInt < lo) (h2 : ¬ hi < x.toInt) (ho : offs[(x.toInt - lo).toNat]? = some off) (ht : (pc : Int) + off = (tgt : Int)) (k : av_V p l e R s m args below meth c D cl A ad ca nL Q cells slots tgt L st w) : av_V p l e R s m args below meth c D cl A ad ca nL Q cells slots pc L (.int x :: st) w := fun H locs ls hP hD hS hL => lv_tableIn K.1 K.2.1 hd h1 h2 ho ht (k H locs ls hP hD hS hL)
theorem av_tswO (K : av_K p s m args meth c D cl ca A cc nL own Ts) {dflt lo hi : Int} {offs : Array Int} {len : Nat} {x : Int32} {tgt : Nat} (hd : decode cc pc = .ok (.tableswitch dflt lo hi offs, len)) (h : x.toInt < lo ∨ hi < x.toInt) (ht : (pc : Int) + dflt = (tgt : Int)) (k : av_V p l e R s m args below meth c D cl A ad ca nL Q cells slots tgt L st w) : av_V p l e R s m args below meth c D cl A ad ca nL Q cells slots pc L (.int x :: st) w := fun H locs ls hP hD hS hL => lv_tableOut K.1 K.2.1 hd h ht (k H locs ls hP hD hS hL)
end AW
theorem tsw_4 {x : Int32} (h0 : ¬ x = 0) (h1 : ¬ x = 1) (h2 : ¬ x = 2) (h3 : ¬ x = 3) : x.toInt < 0 ∨ 3 < x.toInt := by
  rcases pk_ix x (n := 4) (by decide) with h | h | ⟨j, hj, rfl⟩
  · exact Or.inl (by rw [Int32.lt_iff_toInt_lt] at h; simpa using h)
  · refine Or.inr ?_
    rw [Int32.le_iff_toInt_le, nI_toInt (by decide)] at h
    omega
  · match j, hj with
    | 0, _ => exact absurd rfl h0
    | 1, _ => exact absurd rfl h1
    | 2, _ => exact absurd rfl h2
    | 3, _ => exact absurd rfl h3
    | k + 4, h => exact absurd h (by omega)
end
section
-- java/lang/Integer.bitCount(I)I
theorem d_JI_bitCount_0 : decode b_JI_bitCount 0 = .ok (.iload_n 0, 1) := by decide +kernel
theorem d_JI_bitCount_1 : decode b_JI_bitCount 1 = .ok (.iload_n 0, 1) := by decide +kernel
theorem d_JI_bitCount_2 : decode b_JI_bitCount 2 = .ok (.iconst 1, 1) := by decide +kernel
theorem d_JI_bitCount_3 : decode b_JI_bitCount 3 = .ok (.iushr, 1) := by decide +kernel
theorem d_JI_bitCount_4 : decode b_JI_bitCount 4 = .ok (.ldc_w 265, 3) := by decide +kernel
theorem d_JI_bitCount_7 : decode b_JI_bitCount 7 = .ok (.iand, 1) := by decide +kernel
theorem d_JI_bitCount_8 : decode b_JI_bitCount 8 = .ok (.isub, 1) := by decide +kernel
theorem d_JI_bitCount_9 : decode b_JI_bitCount 9 = .ok (.istore_n 0, 1) := by decide +kernel
theorem d_JI_bitCount_10 : decode b_JI_bitCount 10 = .ok (.iload_n 0, 1) := by decide +kernel
theorem d_JI_bitCount_11 : decode b_JI_bitCount 11 = .ok (.ldc_w 266, 3) := by decide +kernel
theorem d_JI_bitCount_14 : decode b_JI_bitCount 14 = .ok (.iand, 1) := by decide +kernel
theorem d_JI_bitCount_15 : decode b_JI_bitCount 15 = .ok (.iload_n 0, 1) := by decide +kernel
theorem d_JI_bitCount_16 : decode b_JI_bitCount 16 = .ok (.iconst 2, 1) := by decide +kernel
theorem d_JI_bitCount_17 : decode b_JI_bitCount 17 = .ok (.iushr, 1) := by decide +kernel
theorem d_JI_bitCount_18 : decode b_JI_bitCount 18 = .ok (.ldc_w 266, 3) := by decide +kernel
theorem d_JI_bitCount_21 : decode b_JI_bitCount 21 = .ok (.iand, 1) := by decide +kernel
theorem d_JI_bitCount_22 : decode b_JI_bitCount 22 = .ok (.iadd, 1) := by decide +kernel
theorem d_JI_bitCount_23 : decode b_JI_bitCount 23 = .ok (.istore_n 0, 1) := by decide +kernel
theorem d_JI_bitCount_24 : decode b_JI_bitCount 24 = .ok (.iload_n 0, 1) := by decide +kernel
theorem d_JI_bitCount_25 : decode b_JI_bitCount 25 = .ok (.iload_n 0, 1) := by decide +kernel
theorem d_JI_bitCount_26 : decode b_JI_bitCount 26 = .ok (.iconst 4, 1) := by decide +kernel
theorem d_JI_bitCount_27 : decode b_JI_bitCount 27 = .ok (.iushr, 1) := by decide +kernel
theorem d_JI_bitCount_28 : decode b_JI_bitCount 28 = .ok (.iadd, 1) := by decide +kernel
theorem d_JI_bitCount_29 : decode b_JI_bitCount 29 = .ok (.ldc_w 267, 3) := by decide +kernel
theorem d_JI_bitCount_32 : decode b_JI_bitCount 32 = .ok (.iand, 1) := by decide +kernel
theorem d_JI_bitCount_33 : decode b_JI_bitCount 33 = .ok (.istore_n 0, 1) := by decide +kernel
theorem d_JI_bitCount_34 : decode b_JI_bitCount 34 = .ok (.iload_n 0, 1) := by decide +kernel
theorem d_JI_bitCount_35 : decode b_JI_bitCount 35 = .ok (.iload_n 0, 1) := by decide +kernel
theorem d_JI_bitCount_36 : decode b_JI_bitCount 36 = .ok (.bipush 8, 2) := by decide +kernel
theorem d_JI_bitCount_38 : decode b_JI_bitCount 38 = .ok (.iushr, 1) := by decide +kernel
theorem d_JI_bitCount_39 : decode b_JI_bitCount 39 = .ok (.iadd, 1) := by decide +kernel
theorem d_JI_bitCount_40 : decode b_JI_bitCount 40 = .ok (.istore_n 0, 1) := by decide +kernel
theorem d_JI_bitCount_41 : decode b_JI_bitCount 41 = .ok (.iload_n 0, 1) := by decide +kernel
theorem d_JI_bitCount_42 : decode b_JI_bitCount 42 = .ok (.iload_n 0, 1) := by decide +kernel
theorem d_JI_bitCount_43 : decode b_JI_bitCount 43 = .ok (.bipush 16, 2) := by decide +kernel
theorem d_JI_bitCount_45 : decode b_JI_bitCount 45 = .ok (.iushr, 1) := by decide +kernel
theorem d_JI_bitCount_46 : decode b_JI_bitCount 46 = .ok (.iadd, 1) := by decide +kernel
theorem d_JI_bitCount_47 : decode b_JI_bitCount 47 = .ok (.istore_n 0, 1) := by decide +kernel
theorem d_JI_bitCount_48 : decode b_JI_bitCount 48 = .ok (.iload_n 0, 1) := by decide +kernel
theorem d_JI_bitCount_49 : decode b_JI_bitCount 49 = .ok (.bipush 63, 2) := by decide +kernel
theorem d_JI_bitCount_51 : decode b_JI_bitCount 51 = .ok (.iand, 1) := by decide +kernel
theorem d_JI_bitCount_52 : decode b_JI_bitCount 52 = .ok (.ireturn, 1) := by decide +kernel
def rm_JI_bitCount : Room := { frames := 0, cells := 0, slots := 0, locals := 0 }
def f_JI_bitCount (fu : Nat) (v0 : Int32) (w : List va_E) : Option (Int32 × List va_E) := (some (((((((((v0 - (((v0).toUInt32 >>> (((1 : Int32)).toUInt32 &&& Int32.toUInt32 31)).toInt32 &&& (1431655765 : Int32))) &&& (858993459 : Int32)) + ((((v0 - (((v0).toUInt32 >>> (((1 : Int32)).toUInt32 &&& Int32.toUInt32 31)).toInt32 &&& (1431655765 : Int32)))).toUInt32 >>> (((2 : Int32)).toUInt32 &&& Int32.toUInt32 31)).toInt32 &&& (858993459 : Int32))) + (((((v0 - (((v0).toUInt32 >>> (((1 : Int32)).toUInt32 &&& Int32.toUInt32 31)).toInt32 &&& (1431655765 : Int32))) &&& (858993459 : Int32)) + ((((v0 - (((v0).toUInt32 >>> (((1 : Int32)).toUInt32 &&& Int32.toUInt32 31)).toInt32 &&& (1431655765 : Int32)))).toUInt32 >>> (((2 : Int32)).toUInt32 &&& Int32.toUInt32 31)).toInt32 &&& (858993459 : Int32)))).toUInt32 >>> (((4 : Int32)).toUInt32 &&& Int32.toUInt32 31)).toInt32) &&& (252645135 : Int32)) + (((((((v0 - (((v0).toUInt32 >>> (((1 : Int32)).toUInt32 &&& Int32.toUInt32 31)).toInt32 &&& (1431655765 : Int32))) &&& (858993459 : Int32)) + ((((v0 - (((v0).toUInt32 >>> (((1 : Int32)).toUInt32 &&& Int32.toUInt32 31)).toInt32 &&& (1431655765 : Int32)))).toUInt32 >>> (((2 : Int32)).toUInt32 &&& Int32.toUInt32 31)).toInt32 &&& (858993459 : Int32))) + (((((v0 - (((v0).toUInt32 >>> (((1 : Int32)).toUInt32 &&& Int32.toUInt32 31)).toInt32 &&& (1431655765 : Int32))) &&& (858993459 : Int32)) + ((((v0 - (((v0).toUInt32 >>> (((1 : Int32)).toUInt32 &&& Int32.toUInt32 31)).toInt32 &&& (1431655765 : Int32)))).toUInt32 >>> (((2 : Int32)).toUInt32 &&& Int32.toUInt32 31)).toInt32 &&& (858993459 : Int32)))).toUInt32 >>> (((4 : Int32)).toUInt32 &&& Int32.toUInt32 31)).toInt32) &&& (252645135 : Int32))).toUInt32 >>> (((8 : Int32)).toUInt32 &&& Int32.toUInt32 31)).toInt32) + ((((((((v0 - (((v0).toUInt32 >>> (((1 : Int32)).toUInt32 &&& Int32.toUInt32 31)).toInt32 &&& (1431655765 : Int32))) &&& (858993459 : Int32)) + ((((v0 - (((v0).toUInt32 >>> (((1 : Int32)).toUInt32 &&& Int32.toUInt32 31)).toInt32 &&& (1431655765 : Int32)))).toUInt32 >>> (((2 : Int32)).toUInt32 &&& Int32.toUInt32 31)).toInt32 &&& (858993459 : Int32))) + (((((v0 - (((v0).toUInt32 >>> (((1 : Int32)).toUInt32 &&& Int32.toUInt32 31)).toInt32 &&& (1431655765 : Int32))) &&& (858993459 : Int32)) + ((((v0 - (((v0).toUInt32 >>> (((1 : Int32)).toUInt32 &&& Int32.toUInt32 31)).toInt32 &&& (1431655765 : Int32)))).toUInt32 >>> (((2 : Int32)).toUInt32 &&& Int32.toUInt32 31)).toInt32 &&& (858993459 : Int32)))).toUInt32 >>> (((4 : Int32)).toUInt32 &&& Int32.toUInt32 31)).toInt32) &&& (252645135 : Int32)) + (((((((v0 - (((v0).toUInt32 >>> (((1 : Int32)).toUInt32 &&& Int32.toUInt32 31)).toInt32 &&& (1431655765 : Int32))) &&& (858993459 : Int32)) + ((((v0 - (((v0).toUInt32 >>> (((1 : Int32)).toUInt32 &&& Int32.toUInt32 31)).toInt32 &&& (1431655765 : Int32)))).toUInt32 >>> (((2 : Int32)).toUInt32 &&& Int32.toUInt32 31)).toInt32 &&& (858993459 : Int32))) + (((((v0 - (((v0).toUInt32 >>> (((1 : Int32)).toUInt32 &&& Int32.toUInt32 31)).toInt32 &&& (1431655765 : Int32))) &&& (858993459 : Int32)) + ((((v0 - (((v0).toUInt32 >>> (((1 : Int32)).toUInt32 &&& Int32.toUInt32 31)).toInt32 &&& (1431655765 : Int32)))).toUInt32 >>> (((2 : Int32)).toUInt32 &&& Int32.toUInt32 31)).toInt32 &&& (858993459 : Int32)))).toUInt32 >>> (((4 : Int32)).toUInt32 &&& Int32.toUInt32 31)).toInt32) &&& (252645135 : Int32))).toUInt32 >>> (((8 : Int32)).toUInt32 &&& Int32.toUInt32 31)).toInt32)).toUInt32 >>> (((16 : Int32)).toUInt32 &&& Int32.toUInt32 31)).toInt32) &&& (63 : Int32)), w))
section
variable {p : Program} {l : Launch} {e : Env} {s : State} {m : MethodId} {args : Array Value} {below : List Frame} {meth : Method} {c : Code} {D : va_G} {ca : Nat → Nat} {A : Nat → Prop} {ad : Nat → Nat}
set_option maxRecDepth 100000 in
set_option maxHeartbeats 4000000 in
theorem v_JI_bitCount (K : av_K p s m args meth c D cl8 ca A b_JI_bitCount 1 R_JI WS) (G : av_G NS tabON A s s.heap) (hr : meth.sig.returnType = some .int) (fu : Nat) {r : Int32 × List va_E} (v0 : Int32) (w : List va_E) (h : f_JI_bitCount fu v0 w = some r) : av_VI p l e rm_JI_bitCount s m args below meth c D cl8 A ad ca 1 r 0 [some (.int v0)] [] w := by
  unfold f_JI_bitCount at h
  refine av_iload_n K d_JI_bitCount_0 rfl rfl ?_
  refine av_iload_n K d_JI_bitCount_1 rfl rfl ?_
  refine av_iconst (v := (1 : Int32)) K d_JI_bitCount_2 (by decide) ?_
  refine av_iushr K d_JI_bitCount_3 ?_
  refine av_ldcw K (cc_JI_265) d_JI_bitCount_4 ?_
  refine av_iand K d_JI_bitCount_7 ?_
  refine av_isub K d_JI_bitCount_8 ?_
  refine av_istore_n K d_JI_bitCount_9 rfl (Nat.le_of_ble_eq_true rfl) rfl ?_
  refine av_iload_n K d_JI_bitCount_10 rfl rfl ?_
  refine av_ldcw K (cc_JI_266) d_JI_bitCount_11 ?_
  refine av_iand K d_JI_bitCount_14 ?_
  refine av_iload_n K d_JI_bitCount_15 rfl rfl ?_
  refine av_iconst (v := (2 : Int32)) K d_JI_bitCount_16 (by decide) ?_
  refine av_iushr K d_JI_bitCount_17 ?_
  refine av_ldcw K (cc_JI_266) d_JI_bitCount_18 ?_
  refine av_iand K d_JI_bitCount_21 ?_
  refine av_iadd K d_JI_bitCount_22 ?_
  refine av_istore_n K d_JI_bitCount_23 rfl (Nat.le_of_ble_eq_true rfl) rfl ?_
  refine av_iload_n K d_JI_bitCount_24 rfl rfl ?_
  refine av_iload_n K d_JI_bitCount_25 rfl rfl ?_
  refine av_iconst (v := (4 : Int32)) K d_JI_bitCount_26 (by decide) ?_
  refine av_iushr K d_JI_bitCount_27 ?_
  refine av_iadd K d_JI_bitCount_28 ?_
  refine av_ldcw K (cc_JI_267) d_JI_bitCount_29 ?_
  refine av_iand K d_JI_bitCount_32 ?_
  refine av_istore_n K d_JI_bitCount_33 rfl (Nat.le_of_ble_eq_true rfl) rfl ?_
  refine av_iload_n K d_JI_bitCount_34 rfl rfl ?_
  refine av_iload_n K d_JI_bitCount_35 rfl rfl ?_
  refine av_bipush (v := (8 : Int32)) K d_JI_bitCount_36 (by decide) ?_
  refine av_iushr K d_JI_bitCount_38 ?_
  refine av_iadd K d_JI_bitCount_39 ?_
  refine av_istore_n K d_JI_bitCount_40 rfl (Nat.le_of_ble_eq_true rfl) rfl ?_
  refine av_iload_n K d_JI_bitCount_41 rfl rfl ?_
  refine av_iload_n K d_JI_bitCount_42 rfl rfl ?_
  refine av_bipush (v := (16 : Int32)) K d_JI_bitCount_43 (by decide) ?_
  refine av_iushr K d_JI_bitCount_45 ?_
  refine av_iadd K d_JI_bitCount_46 ?_
  refine av_istore_n K d_JI_bitCount_47 rfl (Nat.le_of_ble_eq_true rfl) rfl ?_
  refine av_iload_n K d_JI_bitCount_48 rfl rfl ?_
  refine av_bipush (v := (63 : Int32)) K d_JI_bitCount_49 (by decide) ?_
  refine av_iand K d_JI_bitCount_51 ?_
  cases h
  exact av_ireturn K hr d_JI_bitCount_52 rfl
end
set_option maxRecDepth 100000 in
theorem c_JI_bitCount {l : Launch} {D : va_G} {ca : Nat → Nat} {tab : Nat → Int64} {fu : Nat} {v0 : Int32} {w : List va_E} {r : Int32 × List va_E} (h : f_JI_bitCount fu v0 w = some r) : av_Ci l D cl8 ca NS tabON y_JI_bitCount w_JI_bitCount rm_JI_bitCount [.int v0] w (fun v u => (v, u) = r) :=
  av_inI (cc := b_JI_bitCount) (nL := 1) (by decide +kernel) rfl (Nat.le_of_ble_eq_true rfl) (fun p e s m args below meth c A ad K G hr => v_JI_bitCount K G hr fu v0 w h)

-- java/lang/Long.bitCount(J)I
theorem d_JL_bitCount_0 : decode b_JL_bitCount 0 = .ok (.lload_n 0, 1) := by decide +kernel
theorem d_JL_bitCount_1 : decode b_JL_bitCount 1 = .ok (.lload_n 0, 1) := by decide +kernel
theorem d_JL_bitCount_2 : decode b_JL_bitCount 2 = .ok (.iconst 1, 1) := by decide +kernel
theorem d_JL_bitCount_3 : decode b_JL_bitCount 3 = .ok (.lushr, 1) := by decide +kernel
theorem d_JL_bitCount_4 : decode b_JL_bitCount 4 = .ok (.ldc2_w 314, 3) := by decide +kernel
theorem d_JL_bitCount_7 : decode b_JL_bitCount 7 = .ok (.land, 1) := by decide +kernel
theorem d_JL_bitCount_8 : decode b_JL_bitCount 8 = .ok (.lsub, 1) := by decide +kernel
theorem d_JL_bitCount_9 : decode b_JL_bitCount 9 = .ok (.lstore_n 0, 1) := by decide +kernel
theorem d_JL_bitCount_10 : decode b_JL_bitCount 10 = .ok (.lload_n 0, 1) := by decide +kernel
theorem d_JL_bitCount_11 : decode b_JL_bitCount 11 = .ok (.ldc2_w 316, 3) := by decide +kernel
theorem d_JL_bitCount_14 : decode b_JL_bitCount 14 = .ok (.land, 1) := by decide +kernel
theorem d_JL_bitCount_15 : decode b_JL_bitCount 15 = .ok (.lload_n 0, 1) := by decide +kernel
theorem d_JL_bitCount_16 : decode b_JL_bitCount 16 = .ok (.iconst 2, 1) := by decide +kernel
theorem d_JL_bitCount_17 : decode b_JL_bitCount 17 = .ok (.lushr, 1) := by decide +kernel
theorem d_JL_bitCount_18 : decode b_JL_bitCount 18 = .ok (.ldc2_w 316, 3) := by decide +kernel
theorem d_JL_bitCount_21 : decode b_JL_bitCount 21 = .ok (.land, 1) := by decide +kernel
theorem d_JL_bitCount_22 : decode b_JL_bitCount 22 = .ok (.ladd, 1) := by decide +kernel
theorem d_JL_bitCount_23 : decode b_JL_bitCount 23 = .ok (.lstore_n 0, 1) := by decide +kernel
theorem d_JL_bitCount_24 : decode b_JL_bitCount 24 = .ok (.lload_n 0, 1) := by decide +kernel
theorem d_JL_bitCount_25 : decode b_JL_bitCount 25 = .ok (.lload_n 0, 1) := by decide +kernel
theorem d_JL_bitCount_26 : decode b_JL_bitCount 26 = .ok (.iconst 4, 1) := by decide +kernel
theorem d_JL_bitCount_27 : decode b_JL_bitCount 27 = .ok (.lushr, 1) := by decide +kernel
theorem d_JL_bitCount_28 : decode b_JL_bitCount 28 = .ok (.ladd, 1) := by decide +kernel
theorem d_JL_bitCount_29 : decode b_JL_bitCount 29 = .ok (.ldc2_w 318, 3) := by decide +kernel
theorem d_JL_bitCount_32 : decode b_JL_bitCount 32 = .ok (.land, 1) := by decide +kernel
theorem d_JL_bitCount_33 : decode b_JL_bitCount 33 = .ok (.lstore_n 0, 1) := by decide +kernel
theorem d_JL_bitCount_34 : decode b_JL_bitCount 34 = .ok (.lload_n 0, 1) := by decide +kernel
theorem d_JL_bitCount_35 : decode b_JL_bitCount 35 = .ok (.lload_n 0, 1) := by decide +kernel
theorem d_JL_bitCount_36 : decode b_JL_bitCount 36 = .ok (.bipush 8, 2) := by decide +kernel
theorem d_JL_bitCount_38 : decode b_JL_bitCount 38 = .ok (.lushr, 1) := by decide +kernel
theorem d_JL_bitCount_39 : decode b_JL_bitCount 39 = .ok (.ladd, 1) := by decide +kernel
theorem d_JL_bitCount_40 : decode b_JL_bitCount 40 = .ok (.lstore_n 0, 1) := by decide +kernel
theorem d_JL_bitCount_41 : decode b_JL_bitCount 41 = .ok (.lload_n 0, 1) := by decide +kernel
theorem d_JL_bitCount_42 : decode b_JL_bitCount 42 = .ok (.lload_n 0, 1) := by decide +kernel
theorem d_JL_bitCount_43 : decode b_JL_bitCount 43 = .ok (.bipush 16, 2) := by decide +kernel
theorem d_JL_bitCount_45 : decode b_JL_bitCount 45 = .ok (.lushr, 1) := by decide +kernel
theorem d_JL_bitCount_46 : decode b_JL_bitCount 46 = .ok (.ladd, 1) := by decide +kernel
theorem d_JL_bitCount_47 : decode b_JL_bitCount 47 = .ok (.lstore_n 0, 1) := by decide +kernel
theorem d_JL_bitCount_48 : decode b_JL_bitCount 48 = .ok (.lload_n 0, 1) := by decide +kernel
theorem d_JL_bitCount_49 : decode b_JL_bitCount 49 = .ok (.lload_n 0, 1) := by decide +kernel
theorem d_JL_bitCount_50 : decode b_JL_bitCount 50 = .ok (.bipush 32, 2) := by decide +kernel
theorem d_JL_bitCount_52 : decode b_JL_bitCount 52 = .ok (.lushr, 1) := by decide +kernel
theorem d_JL_bitCount_53 : decode b_JL_bitCount 53 = .ok (.ladd, 1) := by decide +kernel
theorem d_JL_bitCount_54 : decode b_JL_bitCount 54 = .ok (.lstore_n 0, 1) := by decide +kernel
theorem d_JL_bitCount_55 : decode b_JL_bitCount 55 = .ok (.lload_n 0, 1) := by decide +kernel
theorem d_JL_bitCount_56 : decode b_JL_bitCount 56 = .ok (.l2i, 1) := by decide +kernel
theorem d_JL_bitCount_57 : decode b_JL_bitCount 57 = .ok (.bipush 127, 2) := by decide +kernel
theorem d_JL_bitCount_59 : decode b_JL_bitCount 59 = .ok (.iand, 1) := by decide +kernel
theorem d_JL_bitCount_60 : decode b_JL_bitCount 60 = .ok (.ireturn, 1) := by decide +kernel
def rm_JL_bitCount : Room := { frames := 0, cells := 0, slots := 0, locals := 0 }
def f_JL_bitCount (fu : Nat) (v0 : Int64) (w : List va_E) : Option (Int32 × List va_E) := (some (((((((((((v0 - (((v0).toUInt64 >>> (((1 : Int32)).toInt64.toUInt64 &&& Int64.toUInt64 63)).toInt64 &&& (6148914691236517205 : Int64))) &&& (3689348814741910323 : Int64)) + ((((v0 - (((v0).toUInt64 >>> (((1 : Int32)).toInt64.toUInt64 &&& Int64.toUInt64 63)).toInt64 &&& (6148914691236517205 : Int64)))).toUInt64 >>> (((2 : Int32)).toInt64.toUInt64 &&& Int64.toUInt64 63)).toInt64 &&& (3689348814741910323 : Int64))) + (((((v0 - (((v0).toUInt64 >>> (((1 : Int32)).toInt64.toUInt64 &&& Int64.toUInt64 63)).toInt64 &&& (6148914691236517205 : Int64))) &&& (3689348814741910323 : Int64)) + ((((v0 - (((v0).toUInt64 >>> (((1 : Int32)).toInt64.toUInt64 &&& Int64.toUInt64 63)).toInt64 &&& (6148914691236517205 : Int64)))).toUInt64 >>> (((2 : Int32)).toInt64.toUInt64 &&& Int64.toUInt64 63)).toInt64 &&& (3689348814741910323 : Int64)))).toUInt64 >>> (((4 : Int32)).toInt64.toUInt64 &&& Int64.toUInt64 63)).toInt64) &&& (1085102592571150095 : Int64)) + (((((((v0 - (((v0).toUInt64 >>> (((1 : Int32)).toInt64.toUInt64 &&& Int64.toUInt64 63)).toInt64 &&& (6148914691236517205 : Int64))) &&& (3689348814741910323 : Int64)) + ((((v0 - (((v0).toUInt64 >>> (((1 : Int32)).toInt64.toUInt64 &&& Int64.toUInt64 63)).toInt64 &&& (6148914691236517205 : Int64)))).toUInt64 >>> (((2 : Int32)).toInt64.toUInt64 &&& Int64.toUInt64 63)).toInt64 &&& (3689348814741910323 : Int64))) + (((((v0 - (((v0).toUInt64 >>> (((1 : Int32)).toInt64.toUInt64 &&& Int64.toUInt64 63)).toInt64 &&& (6148914691236517205 : Int64))) &&& (3689348814741910323 : Int64)) + ((((v0 - (((v0).toUInt64 >>> (((1 : Int32)).toInt64.toUInt64 &&& Int64.toUInt64 63)).toInt64 &&& (6148914691236517205 : Int64)))).toUInt64 >>> (((2 : Int32)).toInt64.toUInt64 &&& Int64.toUInt64 63)).toInt64 &&& (3689348814741910323 : Int64)))).toUInt64 >>> (((4 : Int32)).toInt64.toUInt64 &&& Int64.toUInt64 63)).toInt64) &&& (1085102592571150095 : Int64))).toUInt64 >>> (((8 : Int32)).toInt64.toUInt64 &&& Int64.toUInt64 63)).toInt64) + ((((((((v0 - (((v0).toUInt64 >>> (((1 : Int32)).toInt64.toUInt64 &&& Int64.toUInt64 63)).toInt64 &&& (6148914691236517205 : Int64))) &&& (3689348814741910323 : Int64)) + ((((v0 - (((v0).toUInt64 >>> (((1 : Int32)).toInt64.toUInt64 &&& Int64.toUInt64 63)).toInt64 &&& (6148914691236517205 : Int64)))).toUInt64 >>> (((2 : Int32)).toInt64.toUInt64 &&& Int64.toUInt64 63)).toInt64 &&& (3689348814741910323 : Int64))) + (((((v0 - (((v0).toUInt64 >>> (((1 : Int32)).toInt64.toUInt64 &&& Int64.toUInt64 63)).toInt64 &&& (6148914691236517205 : Int64))) &&& (3689348814741910323 : Int64)) + ((((v0 - (((v0).toUInt64 >>> (((1 : Int32)).toInt64.toUInt64 &&& Int64.toUInt64 63)).toInt64 &&& (6148914691236517205 : Int64)))).toUInt64 >>> (((2 : Int32)).toInt64.toUInt64 &&& Int64.toUInt64 63)).toInt64 &&& (3689348814741910323 : Int64)))).toUInt64 >>> (((4 : Int32)).toInt64.toUInt64 &&& Int64.toUInt64 63)).toInt64) &&& (1085102592571150095 : Int64)) + (((((((v0 - (((v0).toUInt64 >>> (((1 : Int32)).toInt64.toUInt64 &&& Int64.toUInt64 63)).toInt64 &&& (6148914691236517205 : Int64))) &&& (3689348814741910323 : Int64)) + ((((v0 - (((v0).toUInt64 >>> (((1 : Int32)).toInt64.toUInt64 &&& Int64.toUInt64 63)).toInt64 &&& (6148914691236517205 : Int64)))).toUInt64 >>> (((2 : Int32)).toInt64.toUInt64 &&& Int64.toUInt64 63)).toInt64 &&& (3689348814741910323 : Int64))) + (((((v0 - (((v0).toUInt64 >>> (((1 : Int32)).toInt64.toUInt64 &&& Int64.toUInt64 63)).toInt64 &&& (6148914691236517205 : Int64))) &&& (3689348814741910323 : Int64)) + ((((v0 - (((v0).toUInt64 >>> (((1 : Int32)).toInt64.toUInt64 &&& Int64.toUInt64 63)).toInt64 &&& (6148914691236517205 : Int64)))).toUInt64 >>> (((2 : Int32)).toInt64.toUInt64 &&& Int64.toUInt64 63)).toInt64 &&& (3689348814741910323 : Int64)))).toUInt64 >>> (((4 : Int32)).toInt64.toUInt64 &&& Int64.toUInt64 63)).toInt64) &&& (1085102592571150095 : Int64))).toUInt64 >>> (((8 : Int32)).toInt64.toUInt64 &&& Int64.toUInt64 63)).toInt64)).toUInt64 >>> (((16 : Int32)).toInt64.toUInt64 &&& Int64.toUInt64 63)).toInt64) + (((((((((v0 - (((v0).toUInt64 >>> (((1 : Int32)).toInt64.toUInt64 &&& Int64.toUInt64 63)).toInt64 &&& (6148914691236517205 : Int64))) &&& (3689348814741910323 : Int64)) + ((((v0 - (((v0).toUInt64 >>> (((1 : Int32)).toInt64.toUInt64 &&& Int64.toUInt64 63)).toInt64 &&& (6148914691236517205 : Int64)))).toUInt64 >>> (((2 : Int32)).toInt64.toUInt64 &&& Int64.toUInt64 63)).toInt64 &&& (3689348814741910323 : Int64))) + (((((v0 - (((v0).toUInt64 >>> (((1 : Int32)).toInt64.toUInt64 &&& Int64.toUInt64 63)).toInt64 &&& (6148914691236517205 : Int64))) &&& (3689348814741910323 : Int64)) + ((((v0 - (((v0).toUInt64 >>> (((1 : Int32)).toInt64.toUInt64 &&& Int64.toUInt64 63)).toInt64 &&& (6148914691236517205 : Int64)))).toUInt64 >>> (((2 : Int32)).toInt64.toUInt64 &&& Int64.toUInt64 63)).toInt64 &&& (3689348814741910323 : Int64)))).toUInt64 >>> (((4 : Int32)).toInt64.toUInt64 &&& Int64.toUInt64 63)).toInt64) &&& (1085102592571150095 : Int64)) + (((((((v0 - (((v0).toUInt64 >>> (((1 : Int32)).toInt64.toUInt64 &&& Int64.toUInt64 63)).toInt64 &&& (6148914691236517205 : Int64))) &&& (3689348814741910323 : Int64)) + ((((v0 - (((v0).toUInt64 >>> (((1 : Int32)).toInt64.toUInt64 &&& Int64.toUInt64 63)).toInt64 &&& (6148914691236517205 : Int64)))).toUInt64 >>> (((2 : Int32)).toInt64.toUInt64 &&& Int64.toUInt64 63)).toInt64 &&& (3689348814741910323 : Int64))) + (((((v0 - (((v0).toUInt64 >>> (((1 : Int32)).toInt64.toUInt64 &&& Int64.toUInt64 63)).toInt64 &&& (6148914691236517205 : Int64))) &&& (3689348814741910323 : Int64)) + ((((v0 - (((v0).toUInt64 >>> (((1 : Int32)).toInt64.toUInt64 &&& Int64.toUInt64 63)).toInt64 &&& (6148914691236517205 : Int64)))).toUInt64 >>> (((2 : Int32)).toInt64.toUInt64 &&& Int64.toUInt64 63)).toInt64 &&& (3689348814741910323 : Int64)))).toUInt64 >>> (((4 : Int32)).toInt64.toUInt64 &&& Int64.toUInt64 63)).toInt64) &&& (1085102592571150095 : Int64))).toUInt64 >>> (((8 : Int32)).toInt64.toUInt64 &&& Int64.toUInt64 63)).toInt64) + ((((((((v0 - (((v0).toUInt64 >>> (((1 : Int32)).toInt64.toUInt64 &&& Int64.toUInt64 63)).toInt64 &&& (6148914691236517205 : Int64))) &&& (3689348814741910323 : Int64)) + ((((v0 - (((v0).toUInt64 >>> (((1 : Int32)).toInt64.toUInt64 &&& Int64.toUInt64 63)).toInt64 &&& (6148914691236517205 : Int64)))).toUInt64 >>> (((2 : Int32)).toInt64.toUInt64 &&& Int64.toUInt64 63)).toInt64 &&& (3689348814741910323 : Int64))) + (((((v0 - (((v0).toUInt64 >>> (((1 : Int32)).toInt64.toUInt64 &&& Int64.toUInt64 63)).toInt64 &&& (6148914691236517205 : Int64))) &&& (3689348814741910323 : Int64)) + ((((v0 - (((v0).toUInt64 >>> (((1 : Int32)).toInt64.toUInt64 &&& Int64.toUInt64 63)).toInt64 &&& (6148914691236517205 : Int64)))).toUInt64 >>> (((2 : Int32)).toInt64.toUInt64 &&& Int64.toUInt64 63)).toInt64 &&& (3689348814741910323 : Int64)))).toUInt64 >>> (((4 : Int32)).toInt64.toUInt64 &&& Int64.toUInt64 63)).toInt64) &&& (1085102592571150095 : Int64)) + (((((((v0 - (((v0).toUInt64 >>> (((1 : Int32)).toInt64.toUInt64 &&& Int64.toUInt64 63)).toInt64 &&& (6148914691236517205 : Int64))) &&& (3689348814741910323 : Int64)) + ((((v0 - (((v0).toUInt64 >>> (((1 : Int32)).toInt64.toUInt64 &&& Int64.toUInt64 63)).toInt64 &&& (6148914691236517205 : Int64)))).toUInt64 >>> (((2 : Int32)).toInt64.toUInt64 &&& Int64.toUInt64 63)).toInt64 &&& (3689348814741910323 : Int64))) + (((((v0 - (((v0).toUInt64 >>> (((1 : Int32)).toInt64.toUInt64 &&& Int64.toUInt64 63)).toInt64 &&& (6148914691236517205 : Int64))) &&& (3689348814741910323 : Int64)) + ((((v0 - (((v0).toUInt64 >>> (((1 : Int32)).toInt64.toUInt64 &&& Int64.toUInt64 63)).toInt64 &&& (6148914691236517205 : Int64)))).toUInt64 >>> (((2 : Int32)).toInt64.toUInt64 &&& Int64.toUInt64 63)).toInt64 &&& (3689348814741910323 : Int64)))).toUInt64 >>> (((4 : Int32)).toInt64.toUInt64 &&& Int64.toUInt64 63)).toInt64) &&& (1085102592571150095 : Int64))).toUInt64 >>> (((8 : Int32)).toInt64.toUInt64 &&& Int64.toUInt64 63)).toInt64)).toUInt64 >>> (((16 : Int32)).toInt64.toUInt64 &&& Int64.toUInt64 63)).toInt64)).toUInt64 >>> (((32 : Int32)).toInt64.toUInt64 &&& Int64.toUInt64 63)).toInt64)).toInt32 &&& (127 : Int32)), w))
section
variable {p : Program} {l : Launch} {e : Env} {s : State} {m : MethodId} {args : Array Value} {below : List Frame} {meth : Method} {c : Code} {D : va_G} {ca : Nat → Nat} {A : Nat → Prop} {ad : Nat → Nat}
set_option maxRecDepth 100000 in
set_option maxHeartbeats 4000000 in
theorem v_JL_bitCount (K : av_K p s m args meth c D cl8 ca A b_JL_bitCount 2 R_JL WS) (G : av_G NS tabON A s s.heap) (hr : meth.sig.returnType = some .int) (fu : Nat) {r : Int32 × List va_E} (v0 : Int64) (w : List va_E) (h : f_JL_bitCount fu v0 w = some r) : av_VI p l e rm_JL_bitCount s m args below meth c D cl8 A ad ca 2 r 0 [some (.long v0), none] [] w := by
  unfold f_JL_bitCount at h
  refine av_lload_n K d_JL_bitCount_0 rfl rfl ?_
  refine av_lload_n K d_JL_bitCount_1 rfl rfl ?_
  refine av_iconst (v := (1 : Int32)) K d_JL_bitCount_2 (by decide) ?_
  refine av_lushr K d_JL_bitCount_3 ?_
  refine av_ldc2 K (cl_JL_314) d_JL_bitCount_4 ?_
  refine av_land K d_JL_bitCount_7 ?_
  refine av_lsub K d_JL_bitCount_8 ?_
  refine av_lstore_n K d_JL_bitCount_9 rfl (Nat.le_of_ble_eq_true rfl) rfl ?_
  refine av_lload_n K d_JL_bitCount_10 rfl rfl ?_
  refine av_ldc2 K (cl_JL_316) d_JL_bitCount_11 ?_
  refine av_land K d_JL_bitCount_14 ?_
  refine av_lload_n K d_JL_bitCount_15 rfl rfl ?_
  refine av_iconst (v := (2 : Int32)) K d_JL_bitCount_16 (by decide) ?_
  refine av_lushr K d_JL_bitCount_17 ?_
  refine av_ldc2 K (cl_JL_316) d_JL_bitCount_18 ?_
  refine av_land K d_JL_bitCount_21 ?_
  refine av_ladd K d_JL_bitCount_22 ?_
  refine av_lstore_n K d_JL_bitCount_23 rfl (Nat.le_of_ble_eq_true rfl) rfl ?_
  refine av_lload_n K d_JL_bitCount_24 rfl rfl ?_
  refine av_lload_n K d_JL_bitCount_25 rfl rfl ?_
  refine av_iconst (v := (4 : Int32)) K d_JL_bitCount_26 (by decide) ?_
  refine av_lushr K d_JL_bitCount_27 ?_
  refine av_ladd K d_JL_bitCount_28 ?_
  refine av_ldc2 K (cl_JL_318) d_JL_bitCount_29 ?_
  refine av_land K d_JL_bitCount_32 ?_
  refine av_lstore_n K d_JL_bitCount_33 rfl (Nat.le_of_ble_eq_true rfl) rfl ?_
  refine av_lload_n K d_JL_bitCount_34 rfl rfl ?_
  refine av_lload_n K d_JL_bitCount_35 rfl rfl ?_
  refine av_bipush (v := (8 : Int32)) K d_JL_bitCount_36 (by decide) ?_
  refine av_lushr K d_JL_bitCount_38 ?_
  refine av_ladd K d_JL_bitCount_39 ?_
  refine av_lstore_n K d_JL_bitCount_40 rfl (Nat.le_of_ble_eq_true rfl) rfl ?_
  refine av_lload_n K d_JL_bitCount_41 rfl rfl ?_
  refine av_lload_n K d_JL_bitCount_42 rfl rfl ?_
  refine av_bipush (v := (16 : Int32)) K d_JL_bitCount_43 (by decide) ?_
  refine av_lushr K d_JL_bitCount_45 ?_
  refine av_ladd K d_JL_bitCount_46 ?_
  refine av_lstore_n K d_JL_bitCount_47 rfl (Nat.le_of_ble_eq_true rfl) rfl ?_
  refine av_lload_n K d_JL_bitCount_48 rfl rfl ?_
  refine av_lload_n K d_JL_bitCount_49 rfl rfl ?_
  refine av_bipush (v := (32 : Int32)) K d_JL_bitCount_50 (by decide) ?_
  refine av_lushr K d_JL_bitCount_52 ?_
  refine av_ladd K d_JL_bitCount_53 ?_
  refine av_lstore_n K d_JL_bitCount_54 rfl (Nat.le_of_ble_eq_true rfl) rfl ?_
  refine av_lload_n K d_JL_bitCount_55 rfl rfl ?_
  refine av_l2i K d_JL_bitCount_56 ?_
  refine av_bipush (v := (127 : Int32)) K d_JL_bitCount_57 (by decide) ?_
  refine av_iand K d_JL_bitCount_59 ?_
  cases h
  exact av_ireturn K hr d_JL_bitCount_60 rfl
end
set_option maxRecDepth 100000 in
theorem c_JL_bitCount {l : Launch} {D : va_G} {ca : Nat → Nat} {tab : Nat → Int64} {fu : Nat} {v0 : Int64} {w : List va_E} {r : Int32 × List va_E} (h : f_JL_bitCount fu v0 w = some r) : av_Ci l D cl8 ca NS tabON y_JL_bitCount w_JL_bitCount rm_JL_bitCount [.long v0] w (fun v u => (v, u) = r) :=
  av_inI (cc := b_JL_bitCount) (nL := 2) (by decide +kernel) rfl (Nat.le_of_ble_eq_true rfl) (fun p e s m args below meth c A ad K G hr => v_JL_bitCount K G hr fu v0 w h)
end
section
-- FaultTreeDesk$Events.has(I)Z
theorem d_E_has_0 : decode b_E_has 0 = .ok (.iload_n 1, 1) := by decide +kernel
theorem d_E_has_1 : decode b_E_has 1 = .ok (.ifCond .lt 15, 3) := by decide +kernel
theorem d_E_has_4 : decode b_E_has 4 = .ok (.iload_n 1, 1) := by decide +kernel
theorem d_E_has_5 : decode b_E_has 5 = .ok (.aload_n 0, 1) := by decide +kernel
theorem d_E_has_6 : decode b_E_has 6 = .ok (.getfield 18, 3) := by decide +kernel
theorem d_E_has_9 : decode b_E_has 9 = .ok (.if_icmp .ge 7, 3) := by decide +kernel
theorem d_E_has_12 : decode b_E_has 12 = .ok (.iconst 1, 1) := by decide +kernel
theorem d_E_has_13 : decode b_E_has 13 = .ok (.goto 4, 3) := by decide +kernel
theorem d_E_has_16 : decode b_E_has 16 = .ok (.iconst 0, 1) := by decide +kernel
theorem d_E_has_17 : decode b_E_has 17 = .ok (.ireturn, 1) := by decide +kernel
def rm_E_has : Room := { frames := 0, cells := 0, slots := 0, locals := 0 }
def f_E_has_17 (fu : Nat) (s0 : Int32) (w : List va_E) : Option (Int32 × List va_E) := (if s0 = 0 ∨ s0 = 1 then some (s0, w) else none)
def f_E_has_16 (fu : Nat) (w : List va_E) : Option (Int32 × List va_E) := (f_E_has_17 fu ((0 : Int32)) w)
def f_E_has (fu : Nat) (v0 : Nat) (v1 : Int32) (w : List va_E) : Option (Int32 × List va_E) := (if v1 < 0 then (f_E_has_16 fu w) else ((hp_gi w v0 1 2).bind fun x1 => (if x1 ≤ v1 then (f_E_has_16 fu w) else (f_E_has_17 fu ((1 : Int32)) w))))
section
variable {p : Program} {l : Launch} {e : Env} {s : State} {m : MethodId} {args : Array Value} {below : List Frame} {meth : Method} {c : Code} {D : va_G} {ca : Nat → Nat} {A : Nat → Prop} {ad : Nat → Nat}
set_option maxRecDepth 100000 in
set_option maxHeartbeats 4000000 in
theorem v_E_has_17 (K : av_K p s m args meth c D cl8 ca A b_E_has 2 R_E WS) (G : av_G NS tabON A s s.heap) (hr : meth.sig.returnType = some .boolean) (fu : Nat) {r : Int32 × List va_E} (s0 : Int32) (w : List va_E) (h : f_E_has_17 fu s0 w = some r) : av_VI p l e rm_E_has s m args below meth c D cl8 A ad ca 2 r 17 [none, none] [.int s0] w := by
  unfold f_E_has_17 at h
  obtain ⟨hz, h⟩ := hp_if h
  cases h
  exact av_zreturn K hr (hp_nz hz) d_E_has_17 rfl
set_option maxRecDepth 100000 in
set_option maxHeartbeats 4000000 in
theorem v_E_has_16 (K : av_K p s m args meth c D cl8 ca A b_E_has 2 R_E WS) (G : av_G NS tabON A s s.heap) (hr : meth.sig.returnType = some .boolean) (fu : Nat) {r : Int32 × List va_E} (w : List va_E) (h : f_E_has_16 fu w = some r) : av_VI p l e rm_E_has s m args below meth c D cl8 A ad ca 2 r 16 [none, none] [] w := by
  unfold f_E_has_16 at h
  refine av_iconst (v := (0 : Int32)) K d_E_has_16 (by decide) ?_
  exact v_E_has_17 K G hr fu ((0 : Int32)) _ h
set_option maxRecDepth 100000 in
set_option maxHeartbeats 4000000 in
theorem v_E_has (K : av_K p s m args meth c D cl8 ca A b_E_has 2 R_E WS) (G : av_G NS tabON A s s.heap) (hr : meth.sig.returnType = some .boolean) (fu : Nat) {r : Int32 × List va_E} (v0 : Nat) (v1 : Int32) (w : List va_E) (h : f_E_has fu v0 v1 w = some r) : av_VI p l e rm_E_has s m args below meth c D cl8 A ad ca 2 r 0 [some (.ref v0), some (.int v1)] [] w := by
  unfold f_E_has at h
  refine av_iload_n K d_E_has_0 rfl rfl ?_
  refine av_if_lt (tgt := 16) K d_E_has_1 rfl (fun hc => ?_) (fun hc => ?_)
  · rw [if_pos hc] at h
    refine hv_fg [0, 1] rfl ?_
    exact v_E_has_16 K G hr fu _ h
  · rw [if_neg hc] at h
    refine av_iload_n K d_E_has_4 rfl rfl ?_
    refine av_aload_n K d_E_has_5 rfl rfl ?_
    obtain ⟨x1, ex1, h⟩ := hp_bd h
    refine hv_gi K fl_E_18 d_E_has_6 ex1 ?_
    refine av_icmp_ge (tgt := 16) K d_E_has_9 rfl (fun hc => ?_) (fun hc => ?_)
    · rw [if_pos hc] at h
      refine hv_fg [0, 1] rfl ?_
      exact v_E_has_16 K G hr fu _ h
    · rw [if_neg hc] at h
      refine av_iconst (v := (1 : Int32)) K d_E_has_12 (by decide) ?_
      refine av_goto (tgt := 17) K d_E_has_13 rfl ?_
      refine hv_fg [0, 1] rfl ?_
      exact v_E_has_17 K G hr fu ((1 : Int32)) _ h
end
set_option maxRecDepth 100000 in
theorem c_E_has {l : Launch} {D : va_G} {ca : Nat → Nat} {tab : Nat → Int64} {fu : Nat} {v0 : Nat} {v1 : Int32} {w : List va_E} {r : Int32 × List va_E} (h : f_E_has fu v0 v1 w = some r) : av_Ci l D cl8 ca NS tabON y_E_has w_E_has rm_E_has [.ref v0, .int v1] w (fun v u => (v, u) = r) :=
  av_inI (cc := b_E_has) (nL := 2) (by decide +kernel) rfl (Nat.le_of_ble_eq_true rfl) (fun p e s m args below meth c A ad K G hr => v_E_has K G hr fu v0 v1 w h)

-- FaultTreeDesk$Events.add(I)I
theorem d_E_add_0 : decode b_E_add 0 = .ok (.aload_n 0, 1) := by decide +kernel
theorem d_E_add_1 : decode b_E_add 1 = .ok (.getfield 9, 3) := by decide +kernel
theorem d_E_add_4 : decode b_E_add 4 = .ok (.aload_n 0, 1) := by decide +kernel
theorem d_E_add_5 : decode b_E_add 5 = .ok (.getfield 18, 3) := by decide +kernel
theorem d_E_add_8 : decode b_E_add 8 = .ok (.iload_n 1, 1) := by decide +kernel
theorem d_E_add_9 : decode b_E_add 9 = .ok (.iastore, 1) := by decide +kernel
theorem d_E_add_10 : decode b_E_add 10 = .ok (.aload_n 0, 1) := by decide +kernel
theorem d_E_add_11 : decode b_E_add 11 = .ok (.getfield 15, 3) := by decide +kernel
theorem d_E_add_14 : decode b_E_add 14 = .ok (.aload_n 0, 1) := by decide +kernel
theorem d_E_add_15 : decode b_E_add 15 = .ok (.getfield 18, 3) := by decide +kernel
theorem d_E_add_18 : decode b_E_add 18 = .ok (.iconst 0, 1) := by decide +kernel
theorem d_E_add_19 : decode b_E_add 19 = .ok (.iastore, 1) := by decide +kernel
theorem d_E_add_20 : decode b_E_add 20 = .ok (.aload_n 0, 1) := by decide +kernel
theorem d_E_add_21 : decode b_E_add 21 = .ok (.dup, 1) := by decide +kernel
theorem d_E_add_22 : decode b_E_add 22 = .ok (.getfield 18, 3) := by decide +kernel
theorem d_E_add_25 : decode b_E_add 25 = .ok (.iconst 1, 1) := by decide +kernel
theorem d_E_add_26 : decode b_E_add 26 = .ok (.iadd, 1) := by decide +kernel
theorem d_E_add_27 : decode b_E_add 27 = .ok (.putfield 18, 3) := by decide +kernel
theorem d_E_add_30 : decode b_E_add 30 = .ok (.aload_n 0, 1) := by decide +kernel
theorem d_E_add_31 : decode b_E_add 31 = .ok (.getfield 18, 3) := by decide +kernel
theorem d_E_add_34 : decode b_E_add 34 = .ok (.iconst 1, 1) := by decide +kernel
theorem d_E_add_35 : decode b_E_add 35 = .ok (.isub, 1) := by decide +kernel
theorem d_E_add_36 : decode b_E_add 36 = .ok (.ireturn, 1) := by decide +kernel
def rm_E_add : Room := { frames := 0, cells := 0, slots := 0, locals := 0 }
def f_E_add (fu : Nat) (v0 : Nat) (v1 : Int32) (w : List va_E) : Option (Int32 × List va_E) := ((hp_gr w v0 1 0).bind fun q1 => ((hp_gi w v0 1 2).bind fun x2 => ((hp_wi w q1 x2 v1).bind fun w3 => ((hp_gr w3 v0 1 1).bind fun q4 => ((hp_gi w3 v0 1 2).bind fun x5 => ((hp_wi w3 q4 x5 (0 : Int32)).bind fun w6 => ((hp_gi w6 v0 1 2).bind fun x7 => ((hp_pi w6 v0 1 2 (x7 + (1 : Int32))).bind fun w8 => ((hp_gi w8 v0 1 2).bind fun x9 => (some ((x9 - (1 : Int32)), w8)))))))))))
section
variable {p : Program} {l : Launch} {e : Env} {s : State} {m : MethodId} {args : Array Value} {below : List Frame} {meth : Method} {c : Code} {D : va_G} {ca : Nat → Nat} {A : Nat → Prop} {ad : Nat → Nat}
set_option maxRecDepth 100000 in
set_option maxHeartbeats 4000000 in
theorem v_E_add (K : av_K p s m args meth c D cl8 ca A b_E_add 2 R_E WS) (G : av_G NS tabON A s s.heap) (hr : meth.sig.returnType = some .int) (fu : Nat) {r : Int32 × List va_E} (v0 : Nat) (v1 : Int32) (w : List va_E) (h : f_E_add fu v0 v1 w = some r) : av_VI p l e rm_E_add s m args below meth c D cl8 A ad ca 2 r 0 [some (.ref v0), some (.int v1)] [] w := by
  unfold f_E_add at h
  refine av_aload_n K d_E_add_0 rfl rfl ?_
  obtain ⟨q1, eq1, h⟩ := hp_bd h
  refine hv_gr K fl_E_9 d_E_add_1 eq1 ?_
  refine av_aload_n K d_E_add_4 rfl rfl ?_
  obtain ⟨x2, ex2, h⟩ := hp_bd h
  refine hv_gi K fl_E_18 d_E_add_5 ex2 ?_
  refine av_iload_n K d_E_add_8 rfl rfl ?_
  obtain ⟨w3, ew3, h⟩ := hp_bd h
  refine hv_wi K d_E_add_9 ew3 ?_
  refine av_aload_n K d_E_add_10 rfl rfl ?_
  obtain ⟨q4, eq4, h⟩ := hp_bd h
  refine hv_gr K fl_E_15 d_E_add_11 eq4 ?_
  refine av_aload_n K d_E_add_14 rfl rfl ?_
  obtain ⟨x5, ex5, h⟩ := hp_bd h
  refine hv_gi K fl_E_18 d_E_add_15 ex5 ?_
  refine av_iconst (v := (0 : Int32)) K d_E_add_18 (by decide) ?_
  obtain ⟨w6, ew6, h⟩ := hp_bd h
  refine hv_wi K d_E_add_19 ew6 ?_
  refine av_aload_n K d_E_add_20 rfl rfl ?_
  refine av_dup K d_E_add_21 rfl ?_
  obtain ⟨x7, ex7, h⟩ := hp_bd h
  refine hv_gi K fl_E_18 d_E_add_22 ex7 ?_
  refine av_iconst (v := (1 : Int32)) K d_E_add_25 (by decide) ?_
  refine av_iadd K d_E_add_26 ?_
  obtain ⟨w8, ew8, h⟩ := hp_bd h
  refine hv_pi K fp_E_18 d_E_add_27 ew8 ?_
  refine av_aload_n K d_E_add_30 rfl rfl ?_
  obtain ⟨x9, ex9, h⟩ := hp_bd h
  refine hv_gi K fl_E_18 d_E_add_31 ex9 ?_
  refine av_iconst (v := (1 : Int32)) K d_E_add_34 (by decide) ?_
  refine av_isub K d_E_add_35 ?_
  cases h
  exact av_ireturn K hr d_E_add_36 rfl
end
set_option maxRecDepth 100000 in
theorem c_E_add {l : Launch} {D : va_G} {ca : Nat → Nat} {tab : Nat → Int64} {fu : Nat} {v0 : Nat} {v1 : Int32} {w : List va_E} {r : Int32 × List va_E} (h : f_E_add fu v0 v1 w = some r) : av_Ci l D cl8 ca NS tabON y_E_add w_E_add rm_E_add [.ref v0, .int v1] w (fun v u => (v, u) = r) :=
  av_inI (cc := b_E_add) (nL := 2) (by decide +kernel) rfl (Nat.le_of_ble_eq_true rfl) (fun p e s m args below meth c A ad K G hr => v_E_add K G hr fu v0 v1 w h)
end
section
-- FaultTreeDesk$Gates.has(I)Z
theorem d_G_has_0 : decode b_G_has 0 = .ok (.iload_n 1, 1) := by decide +kernel
theorem d_G_has_1 : decode b_G_has 1 = .ok (.ifCond .lt 15, 3) := by decide +kernel
theorem d_G_has_4 : decode b_G_has 4 = .ok (.iload_n 1, 1) := by decide +kernel
theorem d_G_has_5 : decode b_G_has 5 = .ok (.aload_n 0, 1) := by decide +kernel
theorem d_G_has_6 : decode b_G_has 6 = .ok (.getfield 24, 3) := by decide +kernel
theorem d_G_has_9 : decode b_G_has 9 = .ok (.if_icmp .ge 7, 3) := by decide +kernel
theorem d_G_has_12 : decode b_G_has 12 = .ok (.iconst 1, 1) := by decide +kernel
theorem d_G_has_13 : decode b_G_has 13 = .ok (.goto 4, 3) := by decide +kernel
theorem d_G_has_16 : decode b_G_has 16 = .ok (.iconst 0, 1) := by decide +kernel
theorem d_G_has_17 : decode b_G_has 17 = .ok (.ireturn, 1) := by decide +kernel
def rm_G_has : Room := { frames := 0, cells := 0, slots := 0, locals := 0 }
def f_G_has_17 (fu : Nat) (s0 : Int32) (w : List va_E) : Option (Int32 × List va_E) := (if s0 = 0 ∨ s0 = 1 then some (s0, w) else none)
def f_G_has_16 (fu : Nat) (w : List va_E) : Option (Int32 × List va_E) := (f_G_has_17 fu ((0 : Int32)) w)
def f_G_has (fu : Nat) (v0 : Nat) (v1 : Int32) (w : List va_E) : Option (Int32 × List va_E) := (if v1 < 0 then (f_G_has_16 fu w) else ((hp_gi w v0 2 4).bind fun x1 => (if x1 ≤ v1 then (f_G_has_16 fu w) else (f_G_has_17 fu ((1 : Int32)) w))))
section
variable {p : Program} {l : Launch} {e : Env} {s : State} {m : MethodId} {args : Array Value} {below : List Frame} {meth : Method} {c : Code} {D : va_G} {ca : Nat → Nat} {A : Nat → Prop} {ad : Nat → Nat}
set_option maxRecDepth 100000 in
set_option maxHeartbeats 4000000 in
theorem v_G_has_17 (K : av_K p s m args meth c D cl8 ca A b_G_has 2 R_G WS) (G : av_G NS tabON A s s.heap) (hr : meth.sig.returnType = some .boolean) (fu : Nat) {r : Int32 × List va_E} (s0 : Int32) (w : List va_E) (h : f_G_has_17 fu s0 w = some r) : av_VI p l e rm_G_has s m args below meth c D cl8 A ad ca 2 r 17 [none, none] [.int s0] w := by
  unfold f_G_has_17 at h
  obtain ⟨hz, h⟩ := hp_if h
  cases h
  exact av_zreturn K hr (hp_nz hz) d_G_has_17 rfl
set_option maxRecDepth 100000 in
set_option maxHeartbeats 4000000 in
theorem v_G_has_16 (K : av_K p s m args meth c D cl8 ca A b_G_has 2 R_G WS) (G : av_G NS tabON A s s.heap) (hr : meth.sig.returnType = some .boolean) (fu : Nat) {r : Int32 × List va_E} (w : List va_E) (h : f_G_has_16 fu w = some r) : av_VI p l e rm_G_has s m args below meth c D cl8 A ad ca 2 r 16 [none, none] [] w := by
  unfold f_G_has_16 at h
  refine av_iconst (v := (0 : Int32)) K d_G_has_16 (by decide) ?_
  exact v_G_has_17 K G hr fu ((0 : Int32)) _ h
set_option maxRecDepth 100000 in
set_option maxHeartbeats 4000000 in
theorem v_G_has (K : av_K p s m args meth c D cl8 ca A b_G_has 2 R_G WS) (G : av_G NS tabON A s s.heap) (hr : meth.sig.returnType = some .boolean) (fu : Nat) {r : Int32 × List va_E} (v0 : Nat) (v1 : Int32) (w : List va_E) (h : f_G_has fu v0 v1 w = some r) : av_VI p l e rm_G_has s m args below meth c D cl8 A ad ca 2 r 0 [some (.ref v0), some (.int v1)] [] w := by
  unfold f_G_has at h
  refine av_iload_n K d_G_has_0 rfl rfl ?_
  refine av_if_lt (tgt := 16) K d_G_has_1 rfl (fun hc => ?_) (fun hc => ?_)
  · rw [if_pos hc] at h
    refine hv_fg [0, 1] rfl ?_
    exact v_G_has_16 K G hr fu _ h
  · rw [if_neg hc] at h
    refine av_iload_n K d_G_has_4 rfl rfl ?_
    refine av_aload_n K d_G_has_5 rfl rfl ?_
    obtain ⟨x1, ex1, h⟩ := hp_bd h
    refine hv_gi K fl_G_24 d_G_has_6 ex1 ?_
    refine av_icmp_ge (tgt := 16) K d_G_has_9 rfl (fun hc => ?_) (fun hc => ?_)
    · rw [if_pos hc] at h
      refine hv_fg [0, 1] rfl ?_
      exact v_G_has_16 K G hr fu _ h
    · rw [if_neg hc] at h
      refine av_iconst (v := (1 : Int32)) K d_G_has_12 (by decide) ?_
      refine av_goto (tgt := 17) K d_G_has_13 rfl ?_
      refine hv_fg [0, 1] rfl ?_
      exact v_G_has_17 K G hr fu ((1 : Int32)) _ h
end
set_option maxRecDepth 100000 in
theorem c_G_has {l : Launch} {D : va_G} {ca : Nat → Nat} {tab : Nat → Int64} {fu : Nat} {v0 : Nat} {v1 : Int32} {w : List va_E} {r : Int32 × List va_E} (h : f_G_has fu v0 v1 w = some r) : av_Ci l D cl8 ca NS tabON y_G_has w_G_has rm_G_has [.ref v0, .int v1] w (fun v u => (v, u) = r) :=
  av_inI (cc := b_G_has) (nL := 2) (by decide +kernel) rfl (Nat.le_of_ble_eq_true rfl) (fun p e s m args below meth c A ad K G hr => v_G_has K G hr fu v0 v1 w h)

-- FaultTreeDesk$Gates.hasCode(I)Z
theorem d_G_hasCode_0 : decode b_G_hasCode 0 = .ok (.iload_n 1, 1) := by decide +kernel
theorem d_G_hasCode_1 : decode b_G_hasCode 1 = .ok (.bipush 16, 2) := by decide +kernel
theorem d_G_hasCode_3 : decode b_G_hasCode 3 = .ok (.if_icmp .lt 18, 3) := by decide +kernel
theorem d_G_hasCode_6 : decode b_G_hasCode 6 = .ok (.iload_n 1, 1) := by decide +kernel
theorem d_G_hasCode_7 : decode b_G_hasCode 7 = .ok (.bipush 16, 2) := by decide +kernel
theorem d_G_hasCode_9 : decode b_G_hasCode 9 = .ok (.aload_n 0, 1) := by decide +kernel
theorem d_G_hasCode_10 : decode b_G_hasCode 10 = .ok (.getfield 24, 3) := by decide +kernel
theorem d_G_hasCode_13 : decode b_G_hasCode 13 = .ok (.iadd, 1) := by decide +kernel
theorem d_G_hasCode_14 : decode b_G_hasCode 14 = .ok (.if_icmp .ge 7, 3) := by decide +kernel
theorem d_G_hasCode_17 : decode b_G_hasCode 17 = .ok (.iconst 1, 1) := by decide +kernel
theorem d_G_hasCode_18 : decode b_G_hasCode 18 = .ok (.goto 4, 3) := by decide +kernel
theorem d_G_hasCode_21 : decode b_G_hasCode 21 = .ok (.iconst 0, 1) := by decide +kernel
theorem d_G_hasCode_22 : decode b_G_hasCode 22 = .ok (.ireturn, 1) := by decide +kernel
def rm_G_hasCode : Room := { frames := 0, cells := 0, slots := 0, locals := 0 }
def f_G_hasCode_22 (fu : Nat) (s0 : Int32) (w : List va_E) : Option (Int32 × List va_E) := (if s0 = 0 ∨ s0 = 1 then some (s0, w) else none)
def f_G_hasCode_21 (fu : Nat) (w : List va_E) : Option (Int32 × List va_E) := (f_G_hasCode_22 fu ((0 : Int32)) w)
def f_G_hasCode (fu : Nat) (v0 : Nat) (v1 : Int32) (w : List va_E) : Option (Int32 × List va_E) := (if v1 < (16 : Int32) then (f_G_hasCode_21 fu w) else ((hp_gi w v0 2 4).bind fun x1 => (if ((16 : Int32) + x1) ≤ v1 then (f_G_hasCode_21 fu w) else (f_G_hasCode_22 fu ((1 : Int32)) w))))
section
variable {p : Program} {l : Launch} {e : Env} {s : State} {m : MethodId} {args : Array Value} {below : List Frame} {meth : Method} {c : Code} {D : va_G} {ca : Nat → Nat} {A : Nat → Prop} {ad : Nat → Nat}
set_option maxRecDepth 100000 in
set_option maxHeartbeats 4000000 in
theorem v_G_hasCode_22 (K : av_K p s m args meth c D cl8 ca A b_G_hasCode 2 R_G WS) (G : av_G NS tabON A s s.heap) (hr : meth.sig.returnType = some .boolean) (fu : Nat) {r : Int32 × List va_E} (s0 : Int32) (w : List va_E) (h : f_G_hasCode_22 fu s0 w = some r) : av_VI p l e rm_G_hasCode s m args below meth c D cl8 A ad ca 2 r 22 [none, none] [.int s0] w := by
  unfold f_G_hasCode_22 at h
  obtain ⟨hz, h⟩ := hp_if h
  cases h
  exact av_zreturn K hr (hp_nz hz) d_G_hasCode_22 rfl
set_option maxRecDepth 100000 in
set_option maxHeartbeats 4000000 in
theorem v_G_hasCode_21 (K : av_K p s m args meth c D cl8 ca A b_G_hasCode 2 R_G WS) (G : av_G NS tabON A s s.heap) (hr : meth.sig.returnType = some .boolean) (fu : Nat) {r : Int32 × List va_E} (w : List va_E) (h : f_G_hasCode_21 fu w = some r) : av_VI p l e rm_G_hasCode s m args below meth c D cl8 A ad ca 2 r 21 [none, none] [] w := by
  unfold f_G_hasCode_21 at h
  refine av_iconst (v := (0 : Int32)) K d_G_hasCode_21 (by decide) ?_
  exact v_G_hasCode_22 K G hr fu ((0 : Int32)) _ h
set_option maxRecDepth 100000 in
set_option maxHeartbeats 4000000 in
theorem v_G_hasCode (K : av_K p s m args meth c D cl8 ca A b_G_hasCode 2 R_G WS) (G : av_G NS tabON A s s.heap) (hr : meth.sig.returnType = some .boolean) (fu : Nat) {r : Int32 × List va_E} (v0 : Nat) (v1 : Int32) (w : List va_E) (h : f_G_hasCode fu v0 v1 w = some r) : av_VI p l e rm_G_hasCode s m args below meth c D cl8 A ad ca 2 r 0 [some (.ref v0), some (.int v1)] [] w := by
  unfold f_G_hasCode at h
  refine av_iload_n K d_G_hasCode_0 rfl rfl ?_
  refine av_bipush (v := (16 : Int32)) K d_G_hasCode_1 (by decide) ?_
  refine av_icmp_lt (tgt := 21) K d_G_hasCode_3 rfl (fun hc => ?_) (fun hc => ?_)
  · rw [if_pos hc] at h
    refine hv_fg [0, 1] rfl ?_
    exact v_G_hasCode_21 K G hr fu _ h
  · rw [if_neg hc] at h
    refine av_iload_n K d_G_hasCode_6 rfl rfl ?_
    refine av_bipush (v := (16 : Int32)) K d_G_hasCode_7 (by decide) ?_
    refine av_aload_n K d_G_hasCode_9 rfl rfl ?_
    obtain ⟨x1, ex1, h⟩ := hp_bd h
    refine hv_gi K fl_G_24 d_G_hasCode_10 ex1 ?_
    refine av_iadd K d_G_hasCode_13 ?_
    refine av_icmp_ge (tgt := 21) K d_G_hasCode_14 rfl (fun hc => ?_) (fun hc => ?_)
    · rw [if_pos hc] at h
      refine hv_fg [0, 1] rfl ?_
      exact v_G_hasCode_21 K G hr fu _ h
    · rw [if_neg hc] at h
      refine av_iconst (v := (1 : Int32)) K d_G_hasCode_17 (by decide) ?_
      refine av_goto (tgt := 22) K d_G_hasCode_18 rfl ?_
      refine hv_fg [0, 1] rfl ?_
      exact v_G_hasCode_22 K G hr fu ((1 : Int32)) _ h
end
set_option maxRecDepth 100000 in
theorem c_G_hasCode {l : Launch} {D : va_G} {ca : Nat → Nat} {tab : Nat → Int64} {fu : Nat} {v0 : Nat} {v1 : Int32} {w : List va_E} {r : Int32 × List va_E} (h : f_G_hasCode fu v0 v1 w = some r) : av_Ci l D cl8 ca NS tabON y_G_hasCode w_G_hasCode rm_G_hasCode [.ref v0, .int v1] w (fun v u => (v, u) = r) :=
  av_inI (cc := b_G_hasCode) (nL := 2) (by decide +kernel) rfl (Nat.le_of_ble_eq_true rfl) (fun p e s m args below meth c A ad K G hr => v_G_hasCode K G hr fu v0 v1 w h)

-- FaultTreeDesk$Gates.add(II)I
theorem d_G_add_0 : decode b_G_add 0 = .ok (.aload_n 0, 1) := by decide +kernel
theorem d_G_add_1 : decode b_G_add 1 = .ok (.getfield 9, 3) := by decide +kernel
theorem d_G_add_4 : decode b_G_add 4 = .ok (.aload_n 0, 1) := by decide +kernel
theorem d_G_add_5 : decode b_G_add 5 = .ok (.getfield 24, 3) := by decide +kernel
theorem d_G_add_8 : decode b_G_add 8 = .ok (.iload_n 1, 1) := by decide +kernel
theorem d_G_add_9 : decode b_G_add 9 = .ok (.iastore, 1) := by decide +kernel
theorem d_G_add_10 : decode b_G_add 10 = .ok (.aload_n 0, 1) := by decide +kernel
theorem d_G_add_11 : decode b_G_add 11 = .ok (.getfield 15, 3) := by decide +kernel
theorem d_G_add_14 : decode b_G_add 14 = .ok (.aload_n 0, 1) := by decide +kernel
theorem d_G_add_15 : decode b_G_add 15 = .ok (.getfield 24, 3) := by decide +kernel
theorem d_G_add_18 : decode b_G_add 18 = .ok (.iload_n 2, 1) := by decide +kernel
theorem d_G_add_19 : decode b_G_add 19 = .ok (.iastore, 1) := by decide +kernel
theorem d_G_add_20 : decode b_G_add 20 = .ok (.aload_n 0, 1) := by decide +kernel
theorem d_G_add_21 : decode b_G_add 21 = .ok (.dup, 1) := by decide +kernel
theorem d_G_add_22 : decode b_G_add 22 = .ok (.getfield 24, 3) := by decide +kernel
theorem d_G_add_25 : decode b_G_add 25 = .ok (.iconst 1, 1) := by decide +kernel
theorem d_G_add_26 : decode b_G_add 26 = .ok (.iadd, 1) := by decide +kernel
theorem d_G_add_27 : decode b_G_add 27 = .ok (.putfield 24, 3) := by decide +kernel
theorem d_G_add_30 : decode b_G_add 30 = .ok (.aload_n 0, 1) := by decide +kernel
theorem d_G_add_31 : decode b_G_add 31 = .ok (.getfield 24, 3) := by decide +kernel
theorem d_G_add_34 : decode b_G_add 34 = .ok (.iconst 1, 1) := by decide +kernel
theorem d_G_add_35 : decode b_G_add 35 = .ok (.isub, 1) := by decide +kernel
theorem d_G_add_36 : decode b_G_add 36 = .ok (.ireturn, 1) := by decide +kernel
def rm_G_add : Room := { frames := 0, cells := 0, slots := 0, locals := 0 }
def f_G_add (fu : Nat) (v0 : Nat) (v1 : Int32) (v2 : Int32) (w : List va_E) : Option (Int32 × List va_E) := ((hp_gr w v0 2 0).bind fun q1 => ((hp_gi w v0 2 4).bind fun x2 => ((hp_wi w q1 x2 v1).bind fun w3 => ((hp_gr w3 v0 2 1).bind fun q4 => ((hp_gi w3 v0 2 4).bind fun x5 => ((hp_wi w3 q4 x5 v2).bind fun w6 => ((hp_gi w6 v0 2 4).bind fun x7 => ((hp_pi w6 v0 2 4 (x7 + (1 : Int32))).bind fun w8 => ((hp_gi w8 v0 2 4).bind fun x9 => (some ((x9 - (1 : Int32)), w8)))))))))))
section
variable {p : Program} {l : Launch} {e : Env} {s : State} {m : MethodId} {args : Array Value} {below : List Frame} {meth : Method} {c : Code} {D : va_G} {ca : Nat → Nat} {A : Nat → Prop} {ad : Nat → Nat}
set_option maxRecDepth 100000 in
set_option maxHeartbeats 4000000 in
theorem v_G_add (K : av_K p s m args meth c D cl8 ca A b_G_add 3 R_G WS) (G : av_G NS tabON A s s.heap) (hr : meth.sig.returnType = some .int) (fu : Nat) {r : Int32 × List va_E} (v0 : Nat) (v1 : Int32) (v2 : Int32) (w : List va_E) (h : f_G_add fu v0 v1 v2 w = some r) : av_VI p l e rm_G_add s m args below meth c D cl8 A ad ca 3 r 0 [some (.ref v0), some (.int v1), some (.int v2)] [] w := by
  unfold f_G_add at h
  refine av_aload_n K d_G_add_0 rfl rfl ?_
  obtain ⟨q1, eq1, h⟩ := hp_bd h
  refine hv_gr K fl_G_9 d_G_add_1 eq1 ?_
  refine av_aload_n K d_G_add_4 rfl rfl ?_
  obtain ⟨x2, ex2, h⟩ := hp_bd h
  refine hv_gi K fl_G_24 d_G_add_5 ex2 ?_
  refine av_iload_n K d_G_add_8 rfl rfl ?_
  obtain ⟨w3, ew3, h⟩ := hp_bd h
  refine hv_wi K d_G_add_9 ew3 ?_
  refine av_aload_n K d_G_add_10 rfl rfl ?_
  obtain ⟨q4, eq4, h⟩ := hp_bd h
  refine hv_gr K fl_G_15 d_G_add_11 eq4 ?_
  refine av_aload_n K d_G_add_14 rfl rfl ?_
  obtain ⟨x5, ex5, h⟩ := hp_bd h
  refine hv_gi K fl_G_24 d_G_add_15 ex5 ?_
  refine av_iload_n K d_G_add_18 rfl rfl ?_
  obtain ⟨w6, ew6, h⟩ := hp_bd h
  refine hv_wi K d_G_add_19 ew6 ?_
  refine av_aload_n K d_G_add_20 rfl rfl ?_
  refine av_dup K d_G_add_21 rfl ?_
  obtain ⟨x7, ex7, h⟩ := hp_bd h
  refine hv_gi K fl_G_24 d_G_add_22 ex7 ?_
  refine av_iconst (v := (1 : Int32)) K d_G_add_25 (by decide) ?_
  refine av_iadd K d_G_add_26 ?_
  obtain ⟨w8, ew8, h⟩ := hp_bd h
  refine hv_pi K fp_G_24 d_G_add_27 ew8 ?_
  refine av_aload_n K d_G_add_30 rfl rfl ?_
  obtain ⟨x9, ex9, h⟩ := hp_bd h
  refine hv_gi K fl_G_24 d_G_add_31 ex9 ?_
  refine av_iconst (v := (1 : Int32)) K d_G_add_34 (by decide) ?_
  refine av_isub K d_G_add_35 ?_
  cases h
  exact av_ireturn K hr d_G_add_36 rfl
end
set_option maxRecDepth 100000 in
theorem c_G_add {l : Launch} {D : va_G} {ca : Nat → Nat} {tab : Nat → Int64} {fu : Nat} {v0 : Nat} {v1 : Int32} {v2 : Int32} {w : List va_E} {r : Int32 × List va_E} (h : f_G_add fu v0 v1 v2 w = some r) : av_Ci l D cl8 ca NS tabON y_G_add w_G_add rm_G_add [.ref v0, .int v1, .int v2] w (fun v u => (v, u) = r) :=
  av_inI (cc := b_G_add) (nL := 3) (by decide +kernel) rfl (Nat.le_of_ble_eq_true rfl) (fun p e s m args below meth c A ad K G hr => v_G_add K G hr fu v0 v1 v2 w h)

-- FaultTreeDesk$Gates.isChild(II)Z
theorem d_G_isChild_0 : decode b_G_isChild 0 = .ok (.aload_n 0, 1) := by decide +kernel
theorem d_G_isChild_1 : decode b_G_isChild 1 = .ok (.getfield 18, 3) := by decide +kernel
theorem d_G_isChild_4 : decode b_G_isChild 4 = .ok (.iload_n 1, 1) := by decide +kernel
theorem d_G_isChild_5 : decode b_G_isChild 5 = .ok (.iaload, 1) := by decide +kernel
theorem d_G_isChild_6 : decode b_G_isChild 6 = .ok (.iload_n 2, 1) := by decide +kernel
theorem d_G_isChild_7 : decode b_G_isChild 7 = .ok (.ishr, 1) := by decide +kernel
theorem d_G_isChild_8 : decode b_G_isChild 8 = .ok (.iconst 1, 1) := by decide +kernel
theorem d_G_isChild_9 : decode b_G_isChild 9 = .ok (.iand, 1) := by decide +kernel
theorem d_G_isChild_10 : decode b_G_isChild 10 = .ok (.ifCond .eq 7, 3) := by decide +kernel
theorem d_G_isChild_13 : decode b_G_isChild 13 = .ok (.iconst 1, 1) := by decide +kernel
theorem d_G_isChild_14 : decode b_G_isChild 14 = .ok (.goto 4, 3) := by decide +kernel
theorem d_G_isChild_17 : decode b_G_isChild 17 = .ok (.iconst 0, 1) := by decide +kernel
theorem d_G_isChild_18 : decode b_G_isChild 18 = .ok (.ireturn, 1) := by decide +kernel
def rm_G_isChild : Room := { frames := 0, cells := 0, slots := 0, locals := 0 }
def f_G_isChild_18 (fu : Nat) (s0 : Int32) (w : List va_E) : Option (Int32 × List va_E) := (if s0 = 0 ∨ s0 = 1 then some (s0, w) else none)
def f_G_isChild (fu : Nat) (v0 : Nat) (v1 : Int32) (v2 : Int32) (w : List va_E) : Option (Int32 × List va_E) := ((hp_gr w v0 2 2).bind fun q1 => ((hp_ri w q1 v1).bind fun x2 => (if ((x2 >>> (v2 &&& 31)) &&& (1 : Int32)) = 0 then (f_G_isChild_18 fu ((0 : Int32)) w) else (f_G_isChild_18 fu ((1 : Int32)) w))))
section
variable {p : Program} {l : Launch} {e : Env} {s : State} {m : MethodId} {args : Array Value} {below : List Frame} {meth : Method} {c : Code} {D : va_G} {ca : Nat → Nat} {A : Nat → Prop} {ad : Nat → Nat}
set_option maxRecDepth 100000 in
set_option maxHeartbeats 4000000 in
theorem v_G_isChild_18 (K : av_K p s m args meth c D cl8 ca A b_G_isChild 3 R_G WS) (G : av_G NS tabON A s s.heap) (hr : meth.sig.returnType = some .boolean) (fu : Nat) {r : Int32 × List va_E} (s0 : Int32) (w : List va_E) (h : f_G_isChild_18 fu s0 w = some r) : av_VI p l e rm_G_isChild s m args below meth c D cl8 A ad ca 3 r 18 [none, none, none] [.int s0] w := by
  unfold f_G_isChild_18 at h
  obtain ⟨hz, h⟩ := hp_if h
  cases h
  exact av_zreturn K hr (hp_nz hz) d_G_isChild_18 rfl
set_option maxRecDepth 100000 in
set_option maxHeartbeats 4000000 in
theorem v_G_isChild (K : av_K p s m args meth c D cl8 ca A b_G_isChild 3 R_G WS) (G : av_G NS tabON A s s.heap) (hr : meth.sig.returnType = some .boolean) (fu : Nat) {r : Int32 × List va_E} (v0 : Nat) (v1 : Int32) (v2 : Int32) (w : List va_E) (h : f_G_isChild fu v0 v1 v2 w = some r) : av_VI p l e rm_G_isChild s m args below meth c D cl8 A ad ca 3 r 0 [some (.ref v0), some (.int v1), some (.int v2)] [] w := by
  unfold f_G_isChild at h
  refine av_aload_n K d_G_isChild_0 rfl rfl ?_
  obtain ⟨q1, eq1, h⟩ := hp_bd h
  refine hv_gr K fl_G_18 d_G_isChild_1 eq1 ?_
  refine av_iload_n K d_G_isChild_4 rfl rfl ?_
  obtain ⟨x2, ex2, h⟩ := hp_bd h
  refine hv_ri K d_G_isChild_5 ex2 ?_
  refine av_iload_n K d_G_isChild_6 rfl rfl ?_
  refine av_ishr K d_G_isChild_7 ?_
  refine av_iconst (v := (1 : Int32)) K d_G_isChild_8 (by decide) ?_
  refine av_iand K d_G_isChild_9 ?_
  refine av_if_eq (tgt := 17) K d_G_isChild_10 rfl (fun hc => ?_) (fun hc => ?_)
  · rw [if_pos hc] at h
    refine av_iconst (v := (0 : Int32)) K d_G_isChild_17 (by decide) ?_
    refine hv_fg [0, 1, 2] rfl ?_
    exact v_G_isChild_18 K G hr fu ((0 : Int32)) _ h
  · rw [if_neg hc] at h
    refine av_iconst (v := (1 : Int32)) K d_G_isChild_13 (by decide) ?_
    refine av_goto (tgt := 18) K d_G_isChild_14 rfl ?_
    refine hv_fg [0, 1, 2] rfl ?_
    exact v_G_isChild_18 K G hr fu ((1 : Int32)) _ h
end
set_option maxRecDepth 100000 in
theorem c_G_isChild {l : Launch} {D : va_G} {ca : Nat → Nat} {tab : Nat → Int64} {fu : Nat} {v0 : Nat} {v1 : Int32} {v2 : Int32} {w : List va_E} {r : Int32 × List va_E} (h : f_G_isChild fu v0 v1 v2 w = some r) : av_Ci l D cl8 ca NS tabON y_G_isChild w_G_isChild rm_G_isChild [.ref v0, .int v1, .int v2] w (fun v u => (v, u) = r) :=
  av_inI (cc := b_G_isChild) (nL := 3) (by decide +kernel) rfl (Nat.le_of_ble_eq_true rfl) (fun p e s m args below meth c A ad K G hr => v_G_isChild K G hr fu v0 v1 v2 w h)

-- FaultTreeDesk$Gates.isFull(I)Z
theorem d_G_isFull_0 : decode b_G_isFull 0 = .ok (.aload_n 0, 1) := by decide +kernel
theorem d_G_isFull_1 : decode b_G_isFull 1 = .ok (.getfield 9, 3) := by decide +kernel
theorem d_G_isFull_4 : decode b_G_isFull 4 = .ok (.iload_n 1, 1) := by decide +kernel
theorem d_G_isFull_5 : decode b_G_isFull 5 = .ok (.iaload, 1) := by decide +kernel
theorem d_G_isFull_6 : decode b_G_isFull 6 = .ok (.iconst 4, 1) := by decide +kernel
theorem d_G_isFull_7 : decode b_G_isFull 7 = .ok (.if_icmp .ne 7, 3) := by decide +kernel
theorem d_G_isFull_10 : decode b_G_isFull 10 = .ok (.iconst 1, 1) := by decide +kernel
theorem d_G_isFull_11 : decode b_G_isFull 11 = .ok (.goto 4, 3) := by decide +kernel
theorem d_G_isFull_14 : decode b_G_isFull 14 = .ok (.iconst 4, 1) := by decide +kernel
theorem d_G_isFull_15 : decode b_G_isFull 15 = .ok (.istore_n 2, 1) := by decide +kernel
theorem d_G_isFull_16 : decode b_G_isFull 16 = .ok (.aload_n 0, 1) := by decide +kernel
theorem d_G_isFull_17 : decode b_G_isFull 17 = .ok (.getfield 18, 3) := by decide +kernel
theorem d_G_isFull_20 : decode b_G_isFull 20 = .ok (.iload_n 1, 1) := by decide +kernel
theorem d_G_isFull_21 : decode b_G_isFull 21 = .ok (.iaload, 1) := by decide +kernel
theorem d_G_isFull_22 : decode b_G_isFull 22 = .ok (.invokestatic 28, 3) := by decide +kernel
theorem d_G_isFull_25 : decode b_G_isFull 25 = .ok (.iload_n 2, 1) := by decide +kernel
theorem d_G_isFull_26 : decode b_G_isFull 26 = .ok (.if_icmp .lt 7, 3) := by decide +kernel
theorem d_G_isFull_29 : decode b_G_isFull 29 = .ok (.iconst 1, 1) := by decide +kernel
theorem d_G_isFull_30 : decode b_G_isFull 30 = .ok (.goto 4, 3) := by decide +kernel
theorem d_G_isFull_33 : decode b_G_isFull 33 = .ok (.iconst 0, 1) := by decide +kernel
theorem d_G_isFull_34 : decode b_G_isFull 34 = .ok (.ireturn, 1) := by decide +kernel
def rm_G_isFull : Room := { frames := 1, cells := 0, slots := 0, locals := 20 }
def f_G_isFull_34 (fu : Nat) (s0 : Int32) (w : List va_E) : Option (Int32 × List va_E) := (if s0 = 0 ∨ s0 = 1 then some (s0, w) else none)
def f_G_isFull_15 (fu : Nat) (v0 : Nat) (v1 : Int32) (s0 : Int32) (w : List va_E) : Option (Int32 × List va_E) := ((hp_gr w v0 2 2).bind fun q1 => ((hp_ri w q1 v1).bind fun x2 => ((f_JI_bitCount fu x2 w).bind fun r3 => (if r3.1 < s0 then (f_G_isFull_34 fu ((0 : Int32)) r3.2) else (f_G_isFull_34 fu ((1 : Int32)) r3.2)))))
def f_G_isFull (fu : Nat) (v0 : Nat) (v1 : Int32) (w : List va_E) : Option (Int32 × List va_E) := ((hp_gr w v0 2 0).bind fun q1 => ((hp_ri w q1 v1).bind fun x2 => (if x2 = (4 : Int32) then (f_G_isFull_15 fu (v0) (v1) ((1 : Int32)) w) else (f_G_isFull_15 fu (v0) (v1) ((4 : Int32)) w))))
section
variable {p : Program} {l : Launch} {e : Env} {s : State} {m : MethodId} {args : Array Value} {below : List Frame} {meth : Method} {c : Code} {D : va_G} {ca : Nat → Nat} {A : Nat → Prop} {ad : Nat → Nat}
set_option maxRecDepth 100000 in
set_option maxHeartbeats 4000000 in
theorem v_G_isFull_34 (K : av_K p s m args meth c D cl8 ca A b_G_isFull 3 R_G WS) (G : av_G NS tabON A s s.heap) (hr : meth.sig.returnType = some .boolean) (fu : Nat) {r : Int32 × List va_E} (s0 : Int32) (w : List va_E) (h : f_G_isFull_34 fu s0 w = some r) : av_VI p l e rm_G_isFull s m args below meth c D cl8 A ad ca 3 r 34 [none, none, none] [.int s0] w := by
  unfold f_G_isFull_34 at h
  obtain ⟨hz, h⟩ := hp_if h
  cases h
  exact av_zreturn K hr (hp_nz hz) d_G_isFull_34 rfl
set_option maxRecDepth 100000 in
set_option maxHeartbeats 4000000 in
theorem v_G_isFull_15 (K : av_K p s m args meth c D cl8 ca A b_G_isFull 3 R_G WS) (G : av_G NS tabON A s s.heap) (hr : meth.sig.returnType = some .boolean) (fu : Nat) {r : Int32 × List va_E} (v0 : Nat) (v1 : Int32) (s0 : Int32) (w : List va_E) (h : f_G_isFull_15 fu v0 v1 s0 w = some r) : av_VI p l e rm_G_isFull s m args below meth c D cl8 A ad ca 3 r 15 [some (.ref v0), some (.int v1), none] [.int s0] w := by
  unfold f_G_isFull_15 at h
  refine av_istore_n K d_G_isFull_15 rfl (Nat.le_of_ble_eq_true rfl) rfl ?_
  refine av_aload_n K d_G_isFull_16 rfl rfl ?_
  obtain ⟨q1, eq1, h⟩ := hp_bd h
  refine hv_gr K fl_G_18 d_G_isFull_17 eq1 ?_
  refine av_iload_n K d_G_isFull_20 rfl rfl ?_
  obtain ⟨x2, ex2, h⟩ := hp_bd h
  refine hv_ri K d_G_isFull_21 ex2 ?_
  obtain ⟨r3, er3, h⟩ := hp_bd h
  refine av_cSi K G (c_JI_bitCount (tab := tabON) er3) (va_cwS 1 K.2.2.2.2.1 (gSU ml_G_28 sm_JI_bitCount in_JI co_JI_bitCount) rfl rfl rfl ce_JI_bitCount ⟨Nat.le_of_ble_eq_true rfl, Nat.le_of_ble_eq_true rfl⟩) rfl rfl (Nat.le_of_ble_eq_true rfl) d_G_isFull_22 ⟨Nat.zero_le _, Nat.zero_le _⟩ (fun a9 u9 h9 => ?_)
  obtain ⟨rfl, rfl⟩ : a9 = r3.1 ∧ u9 = r3.2 := ⟨congrArg Prod.fst h9, congrArg Prod.snd h9⟩
  refine av_iload_n K d_G_isFull_25 rfl rfl ?_
  refine av_icmp_lt (tgt := 33) K d_G_isFull_26 rfl (fun hc => ?_) (fun hc => ?_)
  · rw [if_pos hc] at h
    refine av_iconst (v := (0 : Int32)) K d_G_isFull_33 (by decide) ?_
    refine hv_fg [0, 1, 2] rfl ?_
    exact v_G_isFull_34 K G hr fu ((0 : Int32)) _ h
  · rw [if_neg hc] at h
    refine av_iconst (v := (1 : Int32)) K d_G_isFull_29 (by decide) ?_
    refine av_goto (tgt := 34) K d_G_isFull_30 rfl ?_
    refine hv_fg [0, 1, 2] rfl ?_
    exact v_G_isFull_34 K G hr fu ((1 : Int32)) _ h
set_option maxRecDepth 100000 in
set_option maxHeartbeats 4000000 in
theorem v_G_isFull (K : av_K p s m args meth c D cl8 ca A b_G_isFull 3 R_G WS) (G : av_G NS tabON A s s.heap) (hr : meth.sig.returnType = some .boolean) (fu : Nat) {r : Int32 × List va_E} (v0 : Nat) (v1 : Int32) (w : List va_E) (h : f_G_isFull fu v0 v1 w = some r) : av_VI p l e rm_G_isFull s m args below meth c D cl8 A ad ca 3 r 0 [some (.ref v0), some (.int v1), none] [] w := by
  unfold f_G_isFull at h
  refine av_aload_n K d_G_isFull_0 rfl rfl ?_
  obtain ⟨q1, eq1, h⟩ := hp_bd h
  refine hv_gr K fl_G_9 d_G_isFull_1 eq1 ?_
  refine av_iload_n K d_G_isFull_4 rfl rfl ?_
  obtain ⟨x2, ex2, h⟩ := hp_bd h
  refine hv_ri K d_G_isFull_5 ex2 ?_
  refine av_iconst (v := (4 : Int32)) K d_G_isFull_6 (by decide) ?_
  refine av_icmp_ne (tgt := 14) K d_G_isFull_7 rfl (fun hc => ?_) (fun hc => ?_)
  · rw [if_neg hc] at h
    refine av_iconst (v := (4 : Int32)) K d_G_isFull_14 (by decide) ?_
    exact v_G_isFull_15 K G hr fu (v0) (v1) ((4 : Int32)) _ h
  · rw [if_pos hc] at h
    refine av_iconst (v := (1 : Int32)) K d_G_isFull_10 (by decide) ?_
    refine av_goto (tgt := 15) K d_G_isFull_11 rfl ?_
    exact v_G_isFull_15 K G hr fu (v0) (v1) ((1 : Int32)) _ h
end
set_option maxRecDepth 100000 in
theorem c_G_isFull {l : Launch} {D : va_G} {ca : Nat → Nat} {tab : Nat → Int64} {fu : Nat} {v0 : Nat} {v1 : Int32} {w : List va_E} {r : Int32 × List va_E} (h : f_G_isFull fu v0 v1 w = some r) : av_Ci l D cl8 ca NS tabON y_G_isFull w_G_isFull rm_G_isFull [.ref v0, .int v1] w (fun v u => (v, u) = r) :=
  av_inI (cc := b_G_isFull) (nL := 3) (by decide +kernel) rfl (Nat.le_of_ble_eq_true rfl) (fun p e s m args below meth c A ad K G hr => v_G_isFull K G hr fu v0 v1 w h)

-- FaultTreeDesk$Gates.withBelow(I)I
theorem d_G_withBelow_0 : decode b_G_withBelow 0 = .ok (.iconst 1, 1) := by decide +kernel
theorem d_G_withBelow_1 : decode b_G_withBelow 1 = .ok (.iload_n 1, 1) := by decide +kernel
theorem d_G_withBelow_2 : decode b_G_withBelow 2 = .ok (.ishl, 1) := by decide +kernel
theorem d_G_withBelow_3 : decode b_G_withBelow 3 = .ok (.iload_n 1, 1) := by decide +kernel
theorem d_G_withBelow_4 : decode b_G_withBelow 4 = .ok (.bipush 16, 2) := by decide +kernel
theorem d_G_withBelow_6 : decode b_G_withBelow 6 = .ok (.if_icmp .lt 15, 3) := by decide +kernel
theorem d_G_withBelow_9 : decode b_G_withBelow 9 = .ok (.aload_n 0, 1) := by decide +kernel
theorem d_G_withBelow_10 : decode b_G_withBelow 10 = .ok (.getfield 21, 3) := by decide +kernel
theorem d_G_withBelow_13 : decode b_G_withBelow 13 = .ok (.iload_n 1, 1) := by decide +kernel
theorem d_G_withBelow_14 : decode b_G_withBelow 14 = .ok (.bipush 16, 2) := by decide +kernel
theorem d_G_withBelow_16 : decode b_G_withBelow 16 = .ok (.isub, 1) := by decide +kernel
theorem d_G_withBelow_17 : decode b_G_withBelow 17 = .ok (.iaload, 1) := by decide +kernel
theorem d_G_withBelow_18 : decode b_G_withBelow 18 = .ok (.goto 4, 3) := by decide +kernel
theorem d_G_withBelow_21 : decode b_G_withBelow 21 = .ok (.iconst 0, 1) := by decide +kernel
theorem d_G_withBelow_22 : decode b_G_withBelow 22 = .ok (.ior, 1) := by decide +kernel
theorem d_G_withBelow_23 : decode b_G_withBelow 23 = .ok (.ireturn, 1) := by decide +kernel
def rm_G_withBelow : Room := { frames := 0, cells := 0, slots := 0, locals := 0 }
def f_G_withBelow_22 (fu : Nat) (s0 : Int32) (s1 : Int32) (w : List va_E) : Option (Int32 × List va_E) := (some ((s0 ||| s1), w))
def f_G_withBelow (fu : Nat) (v0 : Nat) (v1 : Int32) (w : List va_E) : Option (Int32 × List va_E) := (if v1 < (16 : Int32) then (f_G_withBelow_22 fu (((1 : Int32) <<< (v1 &&& 31))) ((0 : Int32)) w) else ((hp_gr w v0 2 3).bind fun q1 => ((hp_ri w q1 (v1 - (16 : Int32))).bind fun x2 => (f_G_withBelow_22 fu (((1 : Int32) <<< (v1 &&& 31))) (x2) w))))
section
variable {p : Program} {l : Launch} {e : Env} {s : State} {m : MethodId} {args : Array Value} {below : List Frame} {meth : Method} {c : Code} {D : va_G} {ca : Nat → Nat} {A : Nat → Prop} {ad : Nat → Nat}
set_option maxRecDepth 100000 in
set_option maxHeartbeats 4000000 in
theorem v_G_withBelow_22 (K : av_K p s m args meth c D cl8 ca A b_G_withBelow 2 R_G WS) (G : av_G NS tabON A s s.heap) (hr : meth.sig.returnType = some .int) (fu : Nat) {r : Int32 × List va_E} (s0 : Int32) (s1 : Int32) (w : List va_E) (h : f_G_withBelow_22 fu s0 s1 w = some r) : av_VI p l e rm_G_withBelow s m args below meth c D cl8 A ad ca 2 r 22 [none, none] [.int s1, .int s0] w := by
  unfold f_G_withBelow_22 at h
  refine av_ior K d_G_withBelow_22 ?_
  cases h
  exact av_ireturn K hr d_G_withBelow_23 rfl
set_option maxRecDepth 100000 in
set_option maxHeartbeats 4000000 in
theorem v_G_withBelow (K : av_K p s m args meth c D cl8 ca A b_G_withBelow 2 R_G WS) (G : av_G NS tabON A s s.heap) (hr : meth.sig.returnType = some .int) (fu : Nat) {r : Int32 × List va_E} (v0 : Nat) (v1 : Int32) (w : List va_E) (h : f_G_withBelow fu v0 v1 w = some r) : av_VI p l e rm_G_withBelow s m args below meth c D cl8 A ad ca 2 r 0 [some (.ref v0), some (.int v1)] [] w := by
  unfold f_G_withBelow at h
  refine av_iconst (v := (1 : Int32)) K d_G_withBelow_0 (by decide) ?_
  refine av_iload_n K d_G_withBelow_1 rfl rfl ?_
  refine av_ishl K d_G_withBelow_2 ?_
  refine av_iload_n K d_G_withBelow_3 rfl rfl ?_
  refine av_bipush (v := (16 : Int32)) K d_G_withBelow_4 (by decide) ?_
  refine av_icmp_lt (tgt := 21) K d_G_withBelow_6 rfl (fun hc => ?_) (fun hc => ?_)
  · rw [if_pos hc] at h
    refine av_iconst (v := (0 : Int32)) K d_G_withBelow_21 (by decide) ?_
    refine hv_fg [0, 1] rfl ?_
    exact v_G_withBelow_22 K G hr fu (((1 : Int32) <<< (v1 &&& 31))) ((0 : Int32)) _ h
  · rw [if_neg hc] at h
    refine av_aload_n K d_G_withBelow_9 rfl rfl ?_
    obtain ⟨q1, eq1, h⟩ := hp_bd h
    refine hv_gr K fl_G_21 d_G_withBelow_10 eq1 ?_
    refine av_iload_n K d_G_withBelow_13 rfl rfl ?_
    refine av_bipush (v := (16 : Int32)) K d_G_withBelow_14 (by decide) ?_
    refine av_isub K d_G_withBelow_16 ?_
    obtain ⟨x2, ex2, h⟩ := hp_bd h
    refine hv_ri K d_G_withBelow_17 ex2 ?_
    refine av_goto (tgt := 22) K d_G_withBelow_18 rfl ?_
    refine hv_fg [0, 1] rfl ?_
    exact v_G_withBelow_22 K G hr fu (((1 : Int32) <<< (v1 &&& 31))) (x2) _ h
end
set_option maxRecDepth 100000 in
theorem c_G_withBelow {l : Launch} {D : va_G} {ca : Nat → Nat} {tab : Nat → Int64} {fu : Nat} {v0 : Nat} {v1 : Int32} {w : List va_E} {r : Int32 × List va_E} (h : f_G_withBelow fu v0 v1 w = some r) : av_Ci l D cl8 ca NS tabON y_G_withBelow w_G_withBelow rm_G_withBelow [.ref v0, .int v1] w (fun v u => (v, u) = r) :=
  av_inI (cc := b_G_withBelow) (nL := 2) (by decide +kernel) rfl (Nat.le_of_ble_eq_true rfl) (fun p e s m args below meth c A ad K G hr => v_G_withBelow K G hr fu v0 v1 w h)

-- FaultTreeDesk$Gates.wouldLoop(II)Z
theorem d_G_wouldLoop_0 : decode b_G_wouldLoop 0 = .ok (.aload_n 0, 1) := by decide +kernel
theorem d_G_wouldLoop_1 : decode b_G_wouldLoop 1 = .ok (.iload_n 2, 1) := by decide +kernel
theorem d_G_wouldLoop_2 : decode b_G_wouldLoop 2 = .ok (.invokevirtual 34, 3) := by decide +kernel
theorem d_G_wouldLoop_5 : decode b_G_wouldLoop 5 = .ok (.bipush 16, 2) := by decide +kernel
theorem d_G_wouldLoop_7 : decode b_G_wouldLoop 7 = .ok (.iload_n 1, 1) := by decide +kernel
theorem d_G_wouldLoop_8 : decode b_G_wouldLoop 8 = .ok (.iadd, 1) := by decide +kernel
theorem d_G_wouldLoop_9 : decode b_G_wouldLoop 9 = .ok (.ishr, 1) := by decide +kernel
theorem d_G_wouldLoop_10 : decode b_G_wouldLoop 10 = .ok (.iconst 1, 1) := by decide +kernel
theorem d_G_wouldLoop_11 : decode b_G_wouldLoop 11 = .ok (.iand, 1) := by decide +kernel
theorem d_G_wouldLoop_12 : decode b_G_wouldLoop 12 = .ok (.ifCond .eq 7, 3) := by decide +kernel
theorem d_G_wouldLoop_15 : decode b_G_wouldLoop 15 = .ok (.iconst 1, 1) := by decide +kernel
theorem d_G_wouldLoop_16 : decode b_G_wouldLoop 16 = .ok (.goto 4, 3) := by decide +kernel
theorem d_G_wouldLoop_19 : decode b_G_wouldLoop 19 = .ok (.iconst 0, 1) := by decide +kernel
theorem d_G_wouldLoop_20 : decode b_G_wouldLoop 20 = .ok (.ireturn, 1) := by decide +kernel
def rm_G_wouldLoop : Room := { frames := 1, cells := 0, slots := 0, locals := 21 }
def f_G_wouldLoop_20 (fu : Nat) (s0 : Int32) (w : List va_E) : Option (Int32 × List va_E) := (if s0 = 0 ∨ s0 = 1 then some (s0, w) else none)
def f_G_wouldLoop (fu : Nat) (v0 : Nat) (v1 : Int32) (v2 : Int32) (w : List va_E) : Option (Int32 × List va_E) := ((hp_is w v0 2).bind fun _ => ((f_G_withBelow fu v0 v2 w).bind fun r1 => (if ((r1.1 >>> (((16 : Int32) + v1) &&& 31)) &&& (1 : Int32)) = 0 then (f_G_wouldLoop_20 fu ((0 : Int32)) r1.2) else (f_G_wouldLoop_20 fu ((1 : Int32)) r1.2))))
section
variable {p : Program} {l : Launch} {e : Env} {s : State} {m : MethodId} {args : Array Value} {below : List Frame} {meth : Method} {c : Code} {D : va_G} {ca : Nat → Nat} {A : Nat → Prop} {ad : Nat → Nat}
set_option maxRecDepth 100000 in
set_option maxHeartbeats 4000000 in
theorem v_G_wouldLoop_20 (K : av_K p s m args meth c D cl8 ca A b_G_wouldLoop 3 R_G WS) (G : av_G NS tabON A s s.heap) (hr : meth.sig.returnType = some .boolean) (fu : Nat) {r : Int32 × List va_E} (s0 : Int32) (w : List va_E) (h : f_G_wouldLoop_20 fu s0 w = some r) : av_VI p l e rm_G_wouldLoop s m args below meth c D cl8 A ad ca 3 r 20 [none, none, none] [.int s0] w := by
  unfold f_G_wouldLoop_20 at h
  obtain ⟨hz, h⟩ := hp_if h
  cases h
  exact av_zreturn K hr (hp_nz hz) d_G_wouldLoop_20 rfl
set_option maxRecDepth 100000 in
set_option maxHeartbeats 4000000 in
theorem v_G_wouldLoop (K : av_K p s m args meth c D cl8 ca A b_G_wouldLoop 3 R_G WS) (G : av_G NS tabON A s s.heap) (hr : meth.sig.returnType = some .boolean) (fu : Nat) {r : Int32 × List va_E} (v0 : Nat) (v1 : Int32) (v2 : Int32) (w : List va_E) (h : f_G_wouldLoop fu v0 v1 v2 w = some r) : av_VI p l e rm_G_wouldLoop s m args below meth c D cl8 A ad ca 3 r 0 [some (.ref v0), some (.int v1), some (.int v2)] [] w := by
  unfold f_G_wouldLoop at h
  refine av_aload_n K d_G_wouldLoop_0 rfl rfl ?_
  refine av_iload_n K d_G_wouldLoop_1 rfl rfl ?_
  obtain ⟨_, eo2, h⟩ := hp_bd h
  obtain ⟨r1, er1, h⟩ := hp_bd h
  obtain ⟨fs2, ho2⟩ := hp_is_of eo2
  refine av_cVi K G (c_G_withBelow (tab := tabON) er1) (cwV 1 K.2.2.2.2.1 (gV ml_G_34 im_G_withBelow se_G_withBelow in_G co_G_withBelow) rfl rfl rfl cd_G_withBelow ⟨Nat.le_of_ble_eq_true rfl, Nat.le_of_ble_eq_true rfl⟩) rfl ho2 rfl rfl (Nat.le_of_ble_eq_true rfl) d_G_wouldLoop_2 ⟨Nat.zero_le _, Nat.zero_le _⟩ (fun a9 u9 h9 => ?_)
  obtain ⟨rfl, rfl⟩ : a9 = r1.1 ∧ u9 = r1.2 := ⟨congrArg Prod.fst h9, congrArg Prod.snd h9⟩
  refine av_bipush (v := (16 : Int32)) K d_G_wouldLoop_5 (by decide) ?_
  refine av_iload_n K d_G_wouldLoop_7 rfl rfl ?_
  refine av_iadd K d_G_wouldLoop_8 ?_
  refine av_ishr K d_G_wouldLoop_9 ?_
  refine av_iconst (v := (1 : Int32)) K d_G_wouldLoop_10 (by decide) ?_
  refine av_iand K d_G_wouldLoop_11 ?_
  refine av_if_eq (tgt := 19) K d_G_wouldLoop_12 rfl (fun hc => ?_) (fun hc => ?_)
  · rw [if_pos hc] at h
    refine av_iconst (v := (0 : Int32)) K d_G_wouldLoop_19 (by decide) ?_
    refine hv_fg [0, 1, 2] rfl ?_
    exact v_G_wouldLoop_20 K G hr fu ((0 : Int32)) _ h
  · rw [if_neg hc] at h
    refine av_iconst (v := (1 : Int32)) K d_G_wouldLoop_15 (by decide) ?_
    refine av_goto (tgt := 20) K d_G_wouldLoop_16 rfl ?_
    refine hv_fg [0, 1, 2] rfl ?_
    exact v_G_wouldLoop_20 K G hr fu ((1 : Int32)) _ h
end
set_option maxRecDepth 100000 in
theorem c_G_wouldLoop {l : Launch} {D : va_G} {ca : Nat → Nat} {tab : Nat → Int64} {fu : Nat} {v0 : Nat} {v1 : Int32} {v2 : Int32} {w : List va_E} {r : Int32 × List va_E} (h : f_G_wouldLoop fu v0 v1 v2 w = some r) : av_Ci l D cl8 ca NS tabON y_G_wouldLoop w_G_wouldLoop rm_G_wouldLoop [.ref v0, .int v1, .int v2] w (fun v u => (v, u) = r) :=
  av_inI (cc := b_G_wouldLoop) (nL := 3) (by decide +kernel) rfl (Nat.le_of_ble_eq_true rfl) (fun p e s m args below meth c A ad K G hr => v_G_wouldLoop K G hr fu v0 v1 v2 w h)

-- FaultTreeDesk$Gates.join(II)I
theorem d_G_join_0 : decode b_G_join 0 = .ok (.aload_n 0, 1) := by decide +kernel
theorem d_G_join_1 : decode b_G_join 1 = .ok (.getfield 18, 3) := by decide +kernel
theorem d_G_join_4 : decode b_G_join 4 = .ok (.iload_n 1, 1) := by decide +kernel
theorem d_G_join_5 : decode b_G_join 5 = .ok (.dup2, 1) := by decide +kernel
theorem d_G_join_6 : decode b_G_join 6 = .ok (.iaload, 1) := by decide +kernel
theorem d_G_join_7 : decode b_G_join 7 = .ok (.iconst 1, 1) := by decide +kernel
theorem d_G_join_8 : decode b_G_join 8 = .ok (.iload_n 2, 1) := by decide +kernel
theorem d_G_join_9 : decode b_G_join 9 = .ok (.ishl, 1) := by decide +kernel
theorem d_G_join_10 : decode b_G_join 10 = .ok (.ior, 1) := by decide +kernel
theorem d_G_join_11 : decode b_G_join 11 = .ok (.iastore, 1) := by decide +kernel
theorem d_G_join_12 : decode b_G_join 12 = .ok (.aload_n 0, 1) := by decide +kernel
theorem d_G_join_13 : decode b_G_join 13 = .ok (.iload_n 2, 1) := by decide +kernel
theorem d_G_join_14 : decode b_G_join 14 = .ok (.invokevirtual 34, 3) := by decide +kernel
theorem d_G_join_17 : decode b_G_join 17 = .ok (.istore_n 3, 1) := by decide +kernel
theorem d_G_join_18 : decode b_G_join 18 = .ok (.iconst 0, 1) := by decide +kernel
theorem d_G_join_19 : decode b_G_join 19 = .ok (.istore 4, 2) := by decide +kernel
theorem d_G_join_21 : decode b_G_join 21 = .ok (.iload 4, 2) := by decide +kernel
theorem d_G_join_23 : decode b_G_join 23 = .ok (.aload_n 0, 1) := by decide +kernel
theorem d_G_join_24 : decode b_G_join 24 = .ok (.getfield 24, 3) := by decide +kernel
theorem d_G_join_27 : decode b_G_join 27 = .ok (.if_icmp .ge 39, 3) := by decide +kernel
theorem d_G_join_30 : decode b_G_join 30 = .ok (.aload_n 0, 1) := by decide +kernel
theorem d_G_join_31 : decode b_G_join 31 = .ok (.bipush 16, 2) := by decide +kernel
theorem d_G_join_33 : decode b_G_join 33 = .ok (.iload 4, 2) := by decide +kernel
theorem d_G_join_35 : decode b_G_join 35 = .ok (.iadd, 1) := by decide +kernel
theorem d_G_join_36 : decode b_G_join 36 = .ok (.invokevirtual 34, 3) := by decide +kernel
theorem d_G_join_39 : decode b_G_join 39 = .ok (.bipush 16, 2) := by decide +kernel
theorem d_G_join_41 : decode b_G_join 41 = .ok (.iload_n 1, 1) := by decide +kernel
theorem d_G_join_42 : decode b_G_join 42 = .ok (.iadd, 1) := by decide +kernel
theorem d_G_join_43 : decode b_G_join 43 = .ok (.ishr, 1) := by decide +kernel
theorem d_G_join_44 : decode b_G_join 44 = .ok (.iconst 1, 1) := by decide +kernel
theorem d_G_join_45 : decode b_G_join 45 = .ok (.iand, 1) := by decide +kernel
theorem d_G_join_46 : decode b_G_join 46 = .ok (.ifCond .eq 14, 3) := by decide +kernel
theorem d_G_join_49 : decode b_G_join 49 = .ok (.aload_n 0, 1) := by decide +kernel
theorem d_G_join_50 : decode b_G_join 50 = .ok (.getfield 21, 3) := by decide +kernel
theorem d_G_join_53 : decode b_G_join 53 = .ok (.iload 4, 2) := by decide +kernel
theorem d_G_join_55 : decode b_G_join 55 = .ok (.dup2, 1) := by decide +kernel
theorem d_G_join_56 : decode b_G_join 56 = .ok (.iaload, 1) := by decide +kernel
theorem d_G_join_57 : decode b_G_join 57 = .ok (.iload_n 3, 1) := by decide +kernel
theorem d_G_join_58 : decode b_G_join 58 = .ok (.ior, 1) := by decide +kernel
theorem d_G_join_59 : decode b_G_join 59 = .ok (.iastore, 1) := by decide +kernel
theorem d_G_join_60 : decode b_G_join 60 = .ok (.iinc 4 1, 3) := by decide +kernel
theorem d_G_join_63 : decode b_G_join 63 = .ok (.goto (-42), 3) := by decide +kernel
theorem d_G_join_66 : decode b_G_join 66 = .ok (.aload_n 0, 1) := by decide +kernel
theorem d_G_join_67 : decode b_G_join 67 = .ok (.getfield 18, 3) := by decide +kernel
theorem d_G_join_70 : decode b_G_join 70 = .ok (.iload_n 1, 1) := by decide +kernel
theorem d_G_join_71 : decode b_G_join 71 = .ok (.iaload, 1) := by decide +kernel
theorem d_G_join_72 : decode b_G_join 72 = .ok (.invokestatic 28, 3) := by decide +kernel
theorem d_G_join_75 : decode b_G_join 75 = .ok (.ireturn, 1) := by decide +kernel
def rm_G_join : Room := { frames := 1, cells := 0, slots := 0, locals := 21 }
def f_G_join_60 (fu : Nat) (k21 : Nat → Int32 → Int32 → Int32 → List va_E → Option (Int32 × List va_E)) (v0 : Nat) (v1 : Int32) (v3 : Int32) (v4 : Int32) (w : List va_E) : Option (Int32 × List va_E) := (k21 (v0) (v1) (v3) ((v4 + (1 : Int32))) w)
def f_G_join_21 (fu : Nat) : Nat → Nat → Int32 → Int32 → Int32 → List va_E → Option (Int32 × List va_E)
  | 0, _, _, _, _, _ => none
  | n + 1, v0, v1, v3, v4, w => ((hp_gi w v0 2 4).bind fun x1 => (if x1 ≤ v4 then ((hp_gr w v0 2 2).bind fun q2 => ((hp_ri w q2 v1).bind fun x3 => ((f_JI_bitCount fu x3 w).bind fun r4 => (some (r4.1, r4.2))))) else ((hp_is w v0 2).bind fun _ => ((f_G_withBelow fu v0 ((16 : Int32) + v4) w).bind fun r5 => (if ((r5.1 >>> (((16 : Int32) + v1) &&& 31)) &&& (1 : Int32)) = 0 then (f_G_join_60 fu (f_G_join_21 fu n) (v0) (v1) (v3) (v4) r5.2) else ((hp_gr r5.2 v0 2 3).bind fun q6 => ((hp_ri r5.2 q6 v4).bind fun x7 => ((hp_wi r5.2 q6 v4 (x7 ||| v3)).bind fun w8 => (f_G_join_60 fu (f_G_join_21 fu n) (v0) (v1) (v3) (v4) w8)))))))))
def f_G_join (fu : Nat) (v0 : Nat) (v1 : Int32) (v2 : Int32) (w : List va_E) : Option (Int32 × List va_E) := ((hp_gr w v0 2 2).bind fun q1 => ((hp_ri w q1 v1).bind fun x2 => ((hp_wi w q1 v1 (x2 ||| ((1 : Int32) <<< (v2 &&& 31)))).bind fun w3 => ((hp_is w3 v0 2).bind fun _ => ((f_G_withBelow fu v0 v2 w3).bind fun r4 => (f_G_join_21 fu fu (v0) (v1) (r4.1) ((0 : Int32)) r4.2))))))
section
variable {p : Program} {l : Launch} {e : Env} {s : State} {m : MethodId} {args : Array Value} {below : List Frame} {meth : Method} {c : Code} {D : va_G} {ca : Nat → Nat} {A : Nat → Prop} {ad : Nat → Nat}
set_option maxRecDepth 100000 in
set_option maxHeartbeats 4000000 in
theorem v_G_join_60 (K : av_K p s m args meth c D cl8 ca A b_G_join 5 R_G WS) (G : av_G NS tabON A s s.heap) (hr : meth.sig.returnType = some .int) (fu : Nat) {r : Int32 × List va_E} (k21 : Nat → Int32 → Int32 → Int32 → List va_E → Option (Int32 × List va_E)) (hk21 : ∀ (v0 : Nat) (v1 : Int32) (v3 : Int32) (v4 : Int32) (w : List va_E), k21 v0 v1 v3 v4 w = some r → av_VI p l e rm_G_join s m args below meth c D cl8 A ad ca 5 r 21 [some (.ref v0), some (.int v1), none, some (.int v3), some (.int v4)] [] w) (v0 : Nat) (v1 : Int32) (v3 : Int32) (v4 : Int32) (w : List va_E) (h : f_G_join_60 fu k21 v0 v1 v3 v4 w = some r) : av_VI p l e rm_G_join s m args below meth c D cl8 A ad ca 5 r 60 [some (.ref v0), some (.int v1), none, some (.int v3), some (.int v4)] [] w := by
  unfold f_G_join_60 at h
  refine av_iinc (v := (v4 + (1 : Int32))) K d_G_join_60 rfl (congrArg (fun z => v4 + z) (show Int32.ofInt 1 = (1 : Int32) by decide)) (Nat.le_of_ble_eq_true rfl) rfl ?_
  refine av_goto (tgt := 21) K d_G_join_63 rfl ?_
  exact hk21 (v0) (v1) (v3) ((v4 + (1 : Int32))) _ h
set_option maxRecDepth 100000 in
set_option maxHeartbeats 4000000 in
theorem v_G_join_21 (K : av_K p s m args meth c D cl8 ca A b_G_join 5 R_G WS) (G : av_G NS tabON A s s.heap) (hr : meth.sig.returnType = some .int) (fu : Nat) {r : Int32 × List va_E} : ∀ (n : Nat) (v0 : Nat) (v1 : Int32) (v3 : Int32) (v4 : Int32) (w : List va_E), f_G_join_21 fu n v0 v1 v3 v4 w = some r → av_VI p l e rm_G_join s m args below meth c D cl8 A ad ca 5 r 21 [some (.ref v0), some (.int v1), none, some (.int v3), some (.int v4)] [] w := by
  intro n
  induction n with
  | zero => intro _ _ _ _ _ h; cases h
  | succ n ih =>
    intro v0 v1 v3 v4 w h
    unfold f_G_join_21 at h
    refine av_iload K d_G_join_21 rfl ?_
    refine av_aload_n K d_G_join_23 rfl rfl ?_
    obtain ⟨x1, ex1, h⟩ := hp_bd h
    refine hv_gi K fl_G_24 d_G_join_24 ex1 ?_
    refine av_icmp_ge (tgt := 66) K d_G_join_27 rfl (fun hc => ?_) (fun hc => ?_)
    · rw [if_pos hc] at h
      refine av_aload_n K d_G_join_66 rfl rfl ?_
      obtain ⟨q2, eq2, h⟩ := hp_bd h
      refine hv_gr K fl_G_18 d_G_join_67 eq2 ?_
      refine av_iload_n K d_G_join_70 rfl rfl ?_
      obtain ⟨x3, ex3, h⟩ := hp_bd h
      refine hv_ri K d_G_join_71 ex3 ?_
      obtain ⟨r4, er4, h⟩ := hp_bd h
      refine av_cSi K G (c_JI_bitCount (tab := tabON) er4) (va_cwS 1 K.2.2.2.2.1 (gSU ml_G_28 sm_JI_bitCount in_JI co_JI_bitCount) rfl rfl rfl ce_JI_bitCount ⟨Nat.le_of_ble_eq_true rfl, Nat.le_of_ble_eq_true rfl⟩) rfl rfl (Nat.le_of_ble_eq_true rfl) d_G_join_72 ⟨Nat.zero_le _, Nat.zero_le _⟩ (fun a9 u9 h9 => ?_)
      obtain ⟨rfl, rfl⟩ : a9 = r4.1 ∧ u9 = r4.2 := ⟨congrArg Prod.fst h9, congrArg Prod.snd h9⟩
      cases h
      exact av_ireturn K hr d_G_join_75 rfl
    · rw [if_neg hc] at h
      refine av_aload_n K d_G_join_30 rfl rfl ?_
      refine av_bipush (v := (16 : Int32)) K d_G_join_31 (by decide) ?_
      refine av_iload K d_G_join_33 rfl ?_
      refine av_iadd K d_G_join_35 ?_
      obtain ⟨_, eo36, h⟩ := hp_bd h
      obtain ⟨r5, er5, h⟩ := hp_bd h
      obtain ⟨fs36, ho36⟩ := hp_is_of eo36
      refine av_cVi K G (c_G_withBelow (tab := tabON) er5) (cwV 1 K.2.2.2.2.1 (gV ml_G_34 im_G_withBelow se_G_withBelow in_G co_G_withBelow) rfl rfl rfl cd_G_withBelow ⟨Nat.le_of_ble_eq_true rfl, Nat.le_of_ble_eq_true rfl⟩) rfl ho36 rfl rfl (Nat.le_of_ble_eq_true rfl) d_G_join_36 ⟨Nat.zero_le _, Nat.zero_le _⟩ (fun a9 u9 h9 => ?_)
      obtain ⟨rfl, rfl⟩ : a9 = r5.1 ∧ u9 = r5.2 := ⟨congrArg Prod.fst h9, congrArg Prod.snd h9⟩
      refine av_bipush (v := (16 : Int32)) K d_G_join_39 (by decide) ?_
      refine av_iload_n K d_G_join_41 rfl rfl ?_
      refine av_iadd K d_G_join_42 ?_
      refine av_ishr K d_G_join_43 ?_
      refine av_iconst (v := (1 : Int32)) K d_G_join_44 (by decide) ?_
      refine av_iand K d_G_join_45 ?_
      refine av_if_eq (tgt := 60) K d_G_join_46 rfl (fun hc => ?_) (fun hc => ?_)
      · rw [if_pos hc] at h
        exact v_G_join_60 K G hr fu (f_G_join_21 fu n) ih (v0) (v1) (v3) (v4) _ h
      · rw [if_neg hc] at h
        refine av_aload_n K d_G_join_49 rfl rfl ?_
        obtain ⟨q6, eq6, h⟩ := hp_bd h
        refine hv_gr K fl_G_21 d_G_join_50 eq6 ?_
        refine av_iload K d_G_join_53 rfl ?_
        refine av_dup2 K d_G_join_55 rfl rfl ?_
        obtain ⟨x7, ex7, h⟩ := hp_bd h
        refine hv_ri K d_G_join_56 ex7 ?_
        refine av_iload_n K d_G_join_57 rfl rfl ?_
        refine av_ior K d_G_join_58 ?_
        obtain ⟨w8, ew8, h⟩ := hp_bd h
        refine hv_wi K d_G_join_59 ew8 ?_
        exact v_G_join_60 K G hr fu (f_G_join_21 fu n) ih (v0) (v1) (v3) (v4) _ h
set_option maxRecDepth 100000 in
set_option maxHeartbeats 4000000 in
theorem v_G_join (K : av_K p s m args meth c D cl8 ca A b_G_join 5 R_G WS) (G : av_G NS tabON A s s.heap) (hr : meth.sig.returnType = some .int) (fu : Nat) {r : Int32 × List va_E} (v0 : Nat) (v1 : Int32) (v2 : Int32) (w : List va_E) (h : f_G_join fu v0 v1 v2 w = some r) : av_VI p l e rm_G_join s m args below meth c D cl8 A ad ca 5 r 0 [some (.ref v0), some (.int v1), some (.int v2), none, none] [] w := by
  unfold f_G_join at h
  refine av_aload_n K d_G_join_0 rfl rfl ?_
  obtain ⟨q1, eq1, h⟩ := hp_bd h
  refine hv_gr K fl_G_18 d_G_join_1 eq1 ?_
  refine av_iload_n K d_G_join_4 rfl rfl ?_
  refine av_dup2 K d_G_join_5 rfl rfl ?_
  obtain ⟨x2, ex2, h⟩ := hp_bd h
  refine hv_ri K d_G_join_6 ex2 ?_
  refine av_iconst (v := (1 : Int32)) K d_G_join_7 (by decide) ?_
  refine av_iload_n K d_G_join_8 rfl rfl ?_
  refine av_ishl K d_G_join_9 ?_
  refine av_ior K d_G_join_10 ?_
  obtain ⟨w3, ew3, h⟩ := hp_bd h
  refine hv_wi K d_G_join_11 ew3 ?_
  refine av_aload_n K d_G_join_12 rfl rfl ?_
  refine av_iload_n K d_G_join_13 rfl rfl ?_
  obtain ⟨_, eo14, h⟩ := hp_bd h
  obtain ⟨r4, er4, h⟩ := hp_bd h
  obtain ⟨fs14, ho14⟩ := hp_is_of eo14
  refine av_cVi K G (c_G_withBelow (tab := tabON) er4) (cwV 1 K.2.2.2.2.1 (gV ml_G_34 im_G_withBelow se_G_withBelow in_G co_G_withBelow) rfl rfl rfl cd_G_withBelow ⟨Nat.le_of_ble_eq_true rfl, Nat.le_of_ble_eq_true rfl⟩) rfl ho14 rfl rfl (Nat.le_of_ble_eq_true rfl) d_G_join_14 ⟨Nat.zero_le _, Nat.zero_le _⟩ (fun a9 u9 h9 => ?_)
  obtain ⟨rfl, rfl⟩ : a9 = r4.1 ∧ u9 = r4.2 := ⟨congrArg Prod.fst h9, congrArg Prod.snd h9⟩
  refine av_istore_n K d_G_join_17 rfl (Nat.le_of_ble_eq_true rfl) rfl ?_
  refine av_iconst (v := (0 : Int32)) K d_G_join_18 (by decide) ?_
  refine av_istore K d_G_join_19 (Nat.le_of_ble_eq_true rfl) rfl ?_
  refine hv_fg [2] rfl ?_
  exact v_G_join_21 K G hr fu fu (v0) (v1) (r4.1) ((0 : Int32)) _ h
end
set_option maxRecDepth 100000 in
theorem c_G_join {l : Launch} {D : va_G} {ca : Nat → Nat} {tab : Nat → Int64} {fu : Nat} {v0 : Nat} {v1 : Int32} {v2 : Int32} {w : List va_E} {r : Int32 × List va_E} (h : f_G_join fu v0 v1 v2 w = some r) : av_Ci l D cl8 ca NS tabON y_G_join w_G_join rm_G_join [.ref v0, .int v1, .int v2] w (fun v u => (v, u) = r) :=
  av_inI (cc := b_G_join) (nL := 5) (by decide +kernel) rfl (Nat.le_of_ble_eq_true rfl) (fun p e s m args below meth c A ad K G hr => v_G_join K G hr fu v0 v1 v2 w h)

-- FaultTreeDesk$Gates.standsAlone(II)Z
theorem d_G_standsAlone_0 : decode b_G_standsAlone 0 = .ok (.iload_n 2, 1) := by decide +kernel
theorem d_G_standsAlone_1 : decode b_G_standsAlone 1 = .ok (.aload_n 0, 1) := by decide +kernel
theorem d_G_standsAlone_2 : decode b_G_standsAlone 2 = .ok (.bipush 16, 2) := by decide +kernel
theorem d_G_standsAlone_4 : decode b_G_standsAlone 4 = .ok (.iload_n 1, 1) := by decide +kernel
theorem d_G_standsAlone_5 : decode b_G_standsAlone 5 = .ok (.iadd, 1) := by decide +kernel
theorem d_G_standsAlone_6 : decode b_G_standsAlone 6 = .ok (.invokevirtual 34, 3) := by decide +kernel
theorem d_G_standsAlone_9 : decode b_G_standsAlone 9 = .ok (.iconst (-1), 1) := by decide +kernel
theorem d_G_standsAlone_10 : decode b_G_standsAlone 10 = .ok (.ixor, 1) := by decide +kernel
theorem d_G_standsAlone_11 : decode b_G_standsAlone 11 = .ok (.iand, 1) := by decide +kernel
theorem d_G_standsAlone_12 : decode b_G_standsAlone 12 = .ok (.istore_n 3, 1) := by decide +kernel
theorem d_G_standsAlone_13 : decode b_G_standsAlone 13 = .ok (.iconst 0, 1) := by decide +kernel
theorem d_G_standsAlone_14 : decode b_G_standsAlone 14 = .ok (.istore 4, 2) := by decide +kernel
theorem d_G_standsAlone_16 : decode b_G_standsAlone 16 = .ok (.iload 4, 2) := by decide +kernel
theorem d_G_standsAlone_18 : decode b_G_standsAlone 18 = .ok (.aload_n 0, 1) := by decide +kernel
theorem d_G_standsAlone_19 : decode b_G_standsAlone 19 = .ok (.getfield 24, 3) := by decide +kernel
theorem d_G_standsAlone_22 : decode b_G_standsAlone 22 = .ok (.if_icmp .ge 40, 3) := by decide +kernel
theorem d_G_standsAlone_25 : decode b_G_standsAlone 25 = .ok (.iload_n 3, 1) := by decide +kernel
theorem d_G_standsAlone_26 : decode b_G_standsAlone 26 = .ok (.bipush 16, 2) := by decide +kernel
theorem d_G_standsAlone_28 : decode b_G_standsAlone 28 = .ok (.iload 4, 2) := by decide +kernel
theorem d_G_standsAlone_30 : decode b_G_standsAlone 30 = .ok (.iadd, 1) := by decide +kernel
theorem d_G_standsAlone_31 : decode b_G_standsAlone 31 = .ok (.ishr, 1) := by decide +kernel
theorem d_G_standsAlone_32 : decode b_G_standsAlone 32 = .ok (.iconst 1, 1) := by decide +kernel
theorem d_G_standsAlone_33 : decode b_G_standsAlone 33 = .ok (.iand, 1) := by decide +kernel
theorem d_G_standsAlone_34 : decode b_G_standsAlone 34 = .ok (.ifCond .eq 22, 3) := by decide +kernel
theorem d_G_standsAlone_37 : decode b_G_standsAlone 37 = .ok (.aload_n 0, 1) := by decide +kernel
theorem d_G_standsAlone_38 : decode b_G_standsAlone 38 = .ok (.getfield 18, 3) := by decide +kernel
theorem d_G_standsAlone_41 : decode b_G_standsAlone 41 = .ok (.iload 4, 2) := by decide +kernel
theorem d_G_standsAlone_43 : decode b_G_standsAlone 43 = .ok (.iaload, 1) := by decide +kernel
theorem d_G_standsAlone_44 : decode b_G_standsAlone 44 = .ok (.aload_n 0, 1) := by decide +kernel
theorem d_G_standsAlone_45 : decode b_G_standsAlone 45 = .ok (.getfield 21, 3) := by decide +kernel
theorem d_G_standsAlone_48 : decode b_G_standsAlone 48 = .ok (.iload_n 1, 1) := by decide +kernel
theorem d_G_standsAlone_49 : decode b_G_standsAlone 49 = .ok (.iaload, 1) := by decide +kernel
theorem d_G_standsAlone_50 : decode b_G_standsAlone 50 = .ok (.iand, 1) := by decide +kernel
theorem d_G_standsAlone_51 : decode b_G_standsAlone 51 = .ok (.ifCond .eq 5, 3) := by decide +kernel
theorem d_G_standsAlone_54 : decode b_G_standsAlone 54 = .ok (.iconst 0, 1) := by decide +kernel
theorem d_G_standsAlone_55 : decode b_G_standsAlone 55 = .ok (.ireturn, 1) := by decide +kernel
theorem d_G_standsAlone_56 : decode b_G_standsAlone 56 = .ok (.iinc 4 1, 3) := by decide +kernel
theorem d_G_standsAlone_59 : decode b_G_standsAlone 59 = .ok (.goto (-43), 3) := by decide +kernel
theorem d_G_standsAlone_62 : decode b_G_standsAlone 62 = .ok (.iconst 1, 1) := by decide +kernel
theorem d_G_standsAlone_63 : decode b_G_standsAlone 63 = .ok (.ireturn, 1) := by decide +kernel
def rm_G_standsAlone : Room := { frames := 1, cells := 0, slots := 0, locals := 21 }
def f_G_standsAlone_56 (fu : Nat) (k16 : Nat → Int32 → Int32 → Int32 → List va_E → Option (Int32 × List va_E)) (v0 : Nat) (v1 : Int32) (v3 : Int32) (v4 : Int32) (w : List va_E) : Option (Int32 × List va_E) := (k16 (v0) (v1) (v3) ((v4 + (1 : Int32))) w)
def f_G_standsAlone_16 (fu : Nat) : Nat → Nat → Int32 → Int32 → Int32 → List va_E → Option (Int32 × List va_E)
  | 0, _, _, _, _, _ => none
  | n + 1, v0, v1, v3, v4, w => ((hp_gi w v0 2 4).bind fun x1 => (if x1 ≤ v4 then (if (1 : Int32) = 0 ∨ (1 : Int32) = 1 then some ((1 : Int32), w) else none) else (if ((v3 >>> (((16 : Int32) + v4) &&& 31)) &&& (1 : Int32)) = 0 then (f_G_standsAlone_56 fu (f_G_standsAlone_16 fu n) (v0) (v1) (v3) (v4) w) else ((hp_gr w v0 2 2).bind fun q2 => ((hp_ri w q2 v4).bind fun x3 => ((hp_gr w v0 2 3).bind fun q4 => ((hp_ri w q4 v1).bind fun x5 => (if (x3 &&& x5) = 0 then (f_G_standsAlone_56 fu (f_G_standsAlone_16 fu n) (v0) (v1) (v3) (v4) w) else (if (0 : Int32) = 0 ∨ (0 : Int32) = 1 then some ((0 : Int32), w) else none)))))))))
def f_G_standsAlone (fu : Nat) (v0 : Nat) (v1 : Int32) (v2 : Int32) (w : List va_E) : Option (Int32 × List va_E) := ((hp_is w v0 2).bind fun _ => ((f_G_withBelow fu v0 ((16 : Int32) + v1) w).bind fun r1 => (f_G_standsAlone_16 fu fu (v0) (v1) ((v2 &&& (r1.1 ^^^ (-1 : Int32)))) ((0 : Int32)) r1.2)))
section
variable {p : Program} {l : Launch} {e : Env} {s : State} {m : MethodId} {args : Array Value} {below : List Frame} {meth : Method} {c : Code} {D : va_G} {ca : Nat → Nat} {A : Nat → Prop} {ad : Nat → Nat}
set_option maxRecDepth 100000 in
set_option maxHeartbeats 4000000 in
theorem v_G_standsAlone_56 (K : av_K p s m args meth c D cl8 ca A b_G_standsAlone 5 R_G WS) (G : av_G NS tabON A s s.heap) (hr : meth.sig.returnType = some .boolean) (fu : Nat) {r : Int32 × List va_E} (k16 : Nat → Int32 → Int32 → Int32 → List va_E → Option (Int32 × List va_E)) (hk16 : ∀ (v0 : Nat) (v1 : Int32) (v3 : Int32) (v4 : Int32) (w : List va_E), k16 v0 v1 v3 v4 w = some r → av_VI p l e rm_G_standsAlone s m args below meth c D cl8 A ad ca 5 r 16 [some (.ref v0), some (.int v1), none, some (.int v3), some (.int v4)] [] w) (v0 : Nat) (v1 : Int32) (v3 : Int32) (v4 : Int32) (w : List va_E) (h : f_G_standsAlone_56 fu k16 v0 v1 v3 v4 w = some r) : av_VI p l e rm_G_standsAlone s m args below meth c D cl8 A ad ca 5 r 56 [some (.ref v0), some (.int v1), none, some (.int v3), some (.int v4)] [] w := by
  unfold f_G_standsAlone_56 at h
  refine av_iinc (v := (v4 + (1 : Int32))) K d_G_standsAlone_56 rfl (congrArg (fun z => v4 + z) (show Int32.ofInt 1 = (1 : Int32) by decide)) (Nat.le_of_ble_eq_true rfl) rfl ?_
  refine av_goto (tgt := 16) K d_G_standsAlone_59 rfl ?_
  exact hk16 (v0) (v1) (v3) ((v4 + (1 : Int32))) _ h
set_option maxRecDepth 100000 in
set_option maxHeartbeats 4000000 in
theorem v_G_standsAlone_16 (K : av_K p s m args meth c D cl8 ca A b_G_standsAlone 5 R_G WS) (G : av_G NS tabON A s s.heap) (hr : meth.sig.returnType = some .boolean) (fu : Nat) {r : Int32 × List va_E} : ∀ (n : Nat) (v0 : Nat) (v1 : Int32) (v3 : Int32) (v4 : Int32) (w : List va_E), f_G_standsAlone_16 fu n v0 v1 v3 v4 w = some r → av_VI p l e rm_G_standsAlone s m args below meth c D cl8 A ad ca 5 r 16 [some (.ref v0), some (.int v1), none, some (.int v3), some (.int v4)] [] w := by
  intro n
  induction n with
  | zero => intro _ _ _ _ _ h; cases h
  | succ n ih =>
    intro v0 v1 v3 v4 w h
    unfold f_G_standsAlone_16 at h
    refine av_iload K d_G_standsAlone_16 rfl ?_
    refine av_aload_n K d_G_standsAlone_18 rfl rfl ?_
    obtain ⟨x1, ex1, h⟩ := hp_bd h
    refine hv_gi K fl_G_24 d_G_standsAlone_19 ex1 ?_
    refine av_icmp_ge (tgt := 62) K d_G_standsAlone_22 rfl (fun hc => ?_) (fun hc => ?_)
    · rw [if_pos hc] at h
      refine av_iconst (v := (1 : Int32)) K d_G_standsAlone_62 (by decide) ?_
      obtain ⟨hz, h⟩ := hp_if h
      cases h
      exact av_zreturn K hr (hp_nz hz) d_G_standsAlone_63 rfl
    · rw [if_neg hc] at h
      refine av_iload_n K d_G_standsAlone_25 rfl rfl ?_
      refine av_bipush (v := (16 : Int32)) K d_G_standsAlone_26 (by decide) ?_
      refine av_iload K d_G_standsAlone_28 rfl ?_
      refine av_iadd K d_G_standsAlone_30 ?_
      refine av_ishr K d_G_standsAlone_31 ?_
      refine av_iconst (v := (1 : Int32)) K d_G_standsAlone_32 (by decide) ?_
      refine av_iand K d_G_standsAlone_33 ?_
      refine av_if_eq (tgt := 56) K d_G_standsAlone_34 rfl (fun hc => ?_) (fun hc => ?_)
      · rw [if_pos hc] at h
        exact v_G_standsAlone_56 K G hr fu (f_G_standsAlone_16 fu n) ih (v0) (v1) (v3) (v4) _ h
      · rw [if_neg hc] at h
        refine av_aload_n K d_G_standsAlone_37 rfl rfl ?_
        obtain ⟨q2, eq2, h⟩ := hp_bd h
        refine hv_gr K fl_G_18 d_G_standsAlone_38 eq2 ?_
        refine av_iload K d_G_standsAlone_41 rfl ?_
        obtain ⟨x3, ex3, h⟩ := hp_bd h
        refine hv_ri K d_G_standsAlone_43 ex3 ?_
        refine av_aload_n K d_G_standsAlone_44 rfl rfl ?_
        obtain ⟨q4, eq4, h⟩ := hp_bd h
        refine hv_gr K fl_G_21 d_G_standsAlone_45 eq4 ?_
        refine av_iload_n K d_G_standsAlone_48 rfl rfl ?_
        obtain ⟨x5, ex5, h⟩ := hp_bd h
        refine hv_ri K d_G_standsAlone_49 ex5 ?_
        refine av_iand K d_G_standsAlone_50 ?_
        refine av_if_eq (tgt := 56) K d_G_standsAlone_51 rfl (fun hc => ?_) (fun hc => ?_)
        · rw [if_pos hc] at h
          exact v_G_standsAlone_56 K G hr fu (f_G_standsAlone_16 fu n) ih (v0) (v1) (v3) (v4) _ h
        · rw [if_neg hc] at h
          refine av_iconst (v := (0 : Int32)) K d_G_standsAlone_54 (by decide) ?_
          obtain ⟨hz, h⟩ := hp_if h
          cases h
          exact av_zreturn K hr (hp_nz hz) d_G_standsAlone_55 rfl
set_option maxRecDepth 100000 in
set_option maxHeartbeats 4000000 in
theorem v_G_standsAlone (K : av_K p s m args meth c D cl8 ca A b_G_standsAlone 5 R_G WS) (G : av_G NS tabON A s s.heap) (hr : meth.sig.returnType = some .boolean) (fu : Nat) {r : Int32 × List va_E} (v0 : Nat) (v1 : Int32) (v2 : Int32) (w : List va_E) (h : f_G_standsAlone fu v0 v1 v2 w = some r) : av_VI p l e rm_G_standsAlone s m args below meth c D cl8 A ad ca 5 r 0 [some (.ref v0), some (.int v1), some (.int v2), none, none] [] w := by
  unfold f_G_standsAlone at h
  refine av_iload_n K d_G_standsAlone_0 rfl rfl ?_
  refine av_aload_n K d_G_standsAlone_1 rfl rfl ?_
  refine av_bipush (v := (16 : Int32)) K d_G_standsAlone_2 (by decide) ?_
  refine av_iload_n K d_G_standsAlone_4 rfl rfl ?_
  refine av_iadd K d_G_standsAlone_5 ?_
  obtain ⟨_, eo6, h⟩ := hp_bd h
  obtain ⟨r1, er1, h⟩ := hp_bd h
  obtain ⟨fs6, ho6⟩ := hp_is_of eo6
  refine av_cVi K G (c_G_withBelow (tab := tabON) er1) (cwV 1 K.2.2.2.2.1 (gV ml_G_34 im_G_withBelow se_G_withBelow in_G co_G_withBelow) rfl rfl rfl cd_G_withBelow ⟨Nat.le_of_ble_eq_true rfl, Nat.le_of_ble_eq_true rfl⟩) rfl ho6 rfl rfl (Nat.le_of_ble_eq_true rfl) d_G_standsAlone_6 ⟨Nat.zero_le _, Nat.zero_le _⟩ (fun a9 u9 h9 => ?_)
  obtain ⟨rfl, rfl⟩ : a9 = r1.1 ∧ u9 = r1.2 := ⟨congrArg Prod.fst h9, congrArg Prod.snd h9⟩
  refine av_iconst (v := (-1 : Int32)) K d_G_standsAlone_9 (by decide) ?_
  refine av_ixor K d_G_standsAlone_10 ?_
  refine av_iand K d_G_standsAlone_11 ?_
  refine av_istore_n K d_G_standsAlone_12 rfl (Nat.le_of_ble_eq_true rfl) rfl ?_
  refine av_iconst (v := (0 : Int32)) K d_G_standsAlone_13 (by decide) ?_
  refine av_istore K d_G_standsAlone_14 (Nat.le_of_ble_eq_true rfl) rfl ?_
  refine hv_fg [2] rfl ?_
  exact v_G_standsAlone_16 K G hr fu fu (v0) (v1) ((v2 &&& (r1.1 ^^^ (-1 : Int32)))) ((0 : Int32)) _ h
end
set_option maxRecDepth 100000 in
theorem c_G_standsAlone {l : Launch} {D : va_G} {ca : Nat → Nat} {tab : Nat → Int64} {fu : Nat} {v0 : Nat} {v1 : Int32} {v2 : Int32} {w : List va_E} {r : Int32 × List va_E} (h : f_G_standsAlone fu v0 v1 v2 w = some r) : av_Ci l D cl8 ca NS tabON y_G_standsAlone w_G_standsAlone rm_G_standsAlone [.ref v0, .int v1, .int v2] w (fun v u => (v, u) = r) :=
  av_inI (cc := b_G_standsAlone) (nL := 5) (by decide +kernel) rfl (Nat.le_of_ble_eq_true rfl) (fun p e s m args below meth c A ad K G hr => v_G_standsAlone K G hr fu v0 v1 v2 w h)

-- FaultTreeDesk$Gates.moduleSum(I)I
theorem d_G_moduleSum_0 : decode b_G_moduleSum 0 = .ok (.aload_n 0, 1) := by decide +kernel
theorem d_G_moduleSum_1 : decode b_G_moduleSum 1 = .ok (.bipush 16, 2) := by decide +kernel
theorem d_G_moduleSum_3 : decode b_G_moduleSum 3 = .ok (.iload_n 1, 1) := by decide +kernel
theorem d_G_moduleSum_4 : decode b_G_moduleSum 4 = .ok (.iadd, 1) := by decide +kernel
theorem d_G_moduleSum_5 : decode b_G_moduleSum 5 = .ok (.invokevirtual 34, 3) := by decide +kernel
theorem d_G_moduleSum_8 : decode b_G_moduleSum 8 = .ok (.istore_n 2, 1) := by decide +kernel
theorem d_G_moduleSum_9 : decode b_G_moduleSum 9 = .ok (.iconst 0, 1) := by decide +kernel
theorem d_G_moduleSum_10 : decode b_G_moduleSum 10 = .ok (.istore_n 3, 1) := by decide +kernel
theorem d_G_moduleSum_11 : decode b_G_moduleSum 11 = .ok (.iconst 0, 1) := by decide +kernel
theorem d_G_moduleSum_12 : decode b_G_moduleSum 12 = .ok (.istore 4, 2) := by decide +kernel
theorem d_G_moduleSum_14 : decode b_G_moduleSum 14 = .ok (.iload 4, 2) := by decide +kernel
theorem d_G_moduleSum_16 : decode b_G_moduleSum 16 = .ok (.aload_n 0, 1) := by decide +kernel
theorem d_G_moduleSum_17 : decode b_G_moduleSum 17 = .ok (.getfield 24, 3) := by decide +kernel
theorem d_G_moduleSum_20 : decode b_G_moduleSum 20 = .ok (.if_icmp .ge 38, 3) := by decide +kernel
theorem d_G_moduleSum_23 : decode b_G_moduleSum 23 = .ok (.iload_n 2, 1) := by decide +kernel
theorem d_G_moduleSum_24 : decode b_G_moduleSum 24 = .ok (.bipush 16, 2) := by decide +kernel
theorem d_G_moduleSum_26 : decode b_G_moduleSum 26 = .ok (.iload 4, 2) := by decide +kernel
theorem d_G_moduleSum_28 : decode b_G_moduleSum 28 = .ok (.iadd, 1) := by decide +kernel
theorem d_G_moduleSum_29 : decode b_G_moduleSum 29 = .ok (.ishr, 1) := by decide +kernel
theorem d_G_moduleSum_30 : decode b_G_moduleSum 30 = .ok (.iconst 1, 1) := by decide +kernel
theorem d_G_moduleSum_31 : decode b_G_moduleSum 31 = .ok (.iand, 1) := by decide +kernel
theorem d_G_moduleSum_32 : decode b_G_moduleSum 32 = .ok (.ifCond .eq 20, 3) := by decide +kernel
theorem d_G_moduleSum_35 : decode b_G_moduleSum 35 = .ok (.aload_n 0, 1) := by decide +kernel
theorem d_G_moduleSum_36 : decode b_G_moduleSum 36 = .ok (.iload 4, 2) := by decide +kernel
theorem d_G_moduleSum_38 : decode b_G_moduleSum 38 = .ok (.iload_n 2, 1) := by decide +kernel
theorem d_G_moduleSum_39 : decode b_G_moduleSum 39 = .ok (.invokevirtual 37, 3) := by decide +kernel
theorem d_G_moduleSum_42 : decode b_G_moduleSum 42 = .ok (.ifCond .eq 10, 3) := by decide +kernel
theorem d_G_moduleSum_45 : decode b_G_moduleSum 45 = .ok (.iload_n 3, 1) := by decide +kernel
theorem d_G_moduleSum_46 : decode b_G_moduleSum 46 = .ok (.iconst 1, 1) := by decide +kernel
theorem d_G_moduleSum_47 : decode b_G_moduleSum 47 = .ok (.iload 4, 2) := by decide +kernel
theorem d_G_moduleSum_49 : decode b_G_moduleSum 49 = .ok (.ishl, 1) := by decide +kernel
theorem d_G_moduleSum_50 : decode b_G_moduleSum 50 = .ok (.ior, 1) := by decide +kernel
theorem d_G_moduleSum_51 : decode b_G_moduleSum 51 = .ok (.istore_n 3, 1) := by decide +kernel
theorem d_G_moduleSum_52 : decode b_G_moduleSum 52 = .ok (.iinc 4 1, 3) := by decide +kernel
theorem d_G_moduleSum_55 : decode b_G_moduleSum 55 = .ok (.goto (-41), 3) := by decide +kernel
theorem d_G_moduleSum_58 : decode b_G_moduleSum 58 = .ok (.iload_n 3, 1) := by decide +kernel
theorem d_G_moduleSum_59 : decode b_G_moduleSum 59 = .ok (.ireturn, 1) := by decide +kernel
def rm_G_moduleSum : Room := { frames := 2, cells := 0, slots := 0, locals := 45 }
def f_G_moduleSum_52 (fu : Nat) (k14 : Nat → Int32 → Int32 → Int32 → List va_E → Option (Int32 × List va_E)) (v0 : Nat) (v2 : Int32) (v3 : Int32) (v4 : Int32) (w : List va_E) : Option (Int32 × List va_E) := (k14 (v0) (v2) (v3) ((v4 + (1 : Int32))) w)
def f_G_moduleSum_14 (fu : Nat) : Nat → Nat → Int32 → Int32 → Int32 → List va_E → Option (Int32 × List va_E)
  | 0, _, _, _, _, _ => none
  | n + 1, v0, v2, v3, v4, w => ((hp_gi w v0 2 4).bind fun x1 => (if x1 ≤ v4 then (some (v3, w)) else (if ((v2 >>> (((16 : Int32) + v4) &&& 31)) &&& (1 : Int32)) = 0 then (f_G_moduleSum_52 fu (f_G_moduleSum_14 fu n) (v0) (v2) (v3) (v4) w) else ((hp_is w v0 2).bind fun _ => ((f_G_standsAlone fu v0 v4 v2 w).bind fun r2 => (if r2.1 = 0 then (f_G_moduleSum_52 fu (f_G_moduleSum_14 fu n) (v0) (v2) (v3) (v4) r2.2) else (f_G_moduleSum_52 fu (f_G_moduleSum_14 fu n) (v0) (v2) ((v3 ||| ((1 : Int32) <<< (v4 &&& 31)))) (v4) r2.2)))))))
def f_G_moduleSum (fu : Nat) (v0 : Nat) (v1 : Int32) (w : List va_E) : Option (Int32 × List va_E) := ((hp_is w v0 2).bind fun _ => ((f_G_withBelow fu v0 ((16 : Int32) + v1) w).bind fun r1 => (f_G_moduleSum_14 fu fu (v0) (r1.1) ((0 : Int32)) ((0 : Int32)) r1.2)))
section
variable {p : Program} {l : Launch} {e : Env} {s : State} {m : MethodId} {args : Array Value} {below : List Frame} {meth : Method} {c : Code} {D : va_G} {ca : Nat → Nat} {A : Nat → Prop} {ad : Nat → Nat}
set_option maxRecDepth 100000 in
set_option maxHeartbeats 4000000 in
theorem v_G_moduleSum_52 (K : av_K p s m args meth c D cl8 ca A b_G_moduleSum 5 R_G WS) (G : av_G NS tabON A s s.heap) (hr : meth.sig.returnType = some .int) (fu : Nat) {r : Int32 × List va_E} (k14 : Nat → Int32 → Int32 → Int32 → List va_E → Option (Int32 × List va_E)) (hk14 : ∀ (v0 : Nat) (v2 : Int32) (v3 : Int32) (v4 : Int32) (w : List va_E), k14 v0 v2 v3 v4 w = some r → av_VI p l e rm_G_moduleSum s m args below meth c D cl8 A ad ca 5 r 14 [some (.ref v0), none, some (.int v2), some (.int v3), some (.int v4)] [] w) (v0 : Nat) (v2 : Int32) (v3 : Int32) (v4 : Int32) (w : List va_E) (h : f_G_moduleSum_52 fu k14 v0 v2 v3 v4 w = some r) : av_VI p l e rm_G_moduleSum s m args below meth c D cl8 A ad ca 5 r 52 [some (.ref v0), none, some (.int v2), some (.int v3), some (.int v4)] [] w := by
  unfold f_G_moduleSum_52 at h
  refine av_iinc (v := (v4 + (1 : Int32))) K d_G_moduleSum_52 rfl (congrArg (fun z => v4 + z) (show Int32.ofInt 1 = (1 : Int32) by decide)) (Nat.le_of_ble_eq_true rfl) rfl ?_
  refine av_goto (tgt := 14) K d_G_moduleSum_55 rfl ?_
  exact hk14 (v0) (v2) (v3) ((v4 + (1 : Int32))) _ h
set_option maxRecDepth 100000 in
set_option maxHeartbeats 4000000 in
theorem v_G_moduleSum_14 (K : av_K p s m args meth c D cl8 ca A b_G_moduleSum 5 R_G WS) (G : av_G NS tabON A s s.heap) (hr : meth.sig.returnType = some .int) (fu : Nat) {r : Int32 × List va_E} : ∀ (n : Nat) (v0 : Nat) (v2 : Int32) (v3 : Int32) (v4 : Int32) (w : List va_E), f_G_moduleSum_14 fu n v0 v2 v3 v4 w = some r → av_VI p l e rm_G_moduleSum s m args below meth c D cl8 A ad ca 5 r 14 [some (.ref v0), none, some (.int v2), some (.int v3), some (.int v4)] [] w := by
  intro n
  induction n with
  | zero => intro _ _ _ _ _ h; cases h
  | succ n ih =>
    intro v0 v2 v3 v4 w h
    unfold f_G_moduleSum_14 at h
    refine av_iload K d_G_moduleSum_14 rfl ?_
    refine av_aload_n K d_G_moduleSum_16 rfl rfl ?_
    obtain ⟨x1, ex1, h⟩ := hp_bd h
    refine hv_gi K fl_G_24 d_G_moduleSum_17 ex1 ?_
    refine av_icmp_ge (tgt := 58) K d_G_moduleSum_20 rfl (fun hc => ?_) (fun hc => ?_)
    · rw [if_pos hc] at h
      refine av_iload_n K d_G_moduleSum_58 rfl rfl ?_
      cases h
      exact av_ireturn K hr d_G_moduleSum_59 rfl
    · rw [if_neg hc] at h
      refine av_iload_n K d_G_moduleSum_23 rfl rfl ?_
      refine av_bipush (v := (16 : Int32)) K d_G_moduleSum_24 (by decide) ?_
      refine av_iload K d_G_moduleSum_26 rfl ?_
      refine av_iadd K d_G_moduleSum_28 ?_
      refine av_ishr K d_G_moduleSum_29 ?_
      refine av_iconst (v := (1 : Int32)) K d_G_moduleSum_30 (by decide) ?_
      refine av_iand K d_G_moduleSum_31 ?_
      refine av_if_eq (tgt := 52) K d_G_moduleSum_32 rfl (fun hc => ?_) (fun hc => ?_)
      · rw [if_pos hc] at h
        exact v_G_moduleSum_52 K G hr fu (f_G_moduleSum_14 fu n) ih (v0) (v2) (v3) (v4) _ h
      · rw [if_neg hc] at h
        refine av_aload_n K d_G_moduleSum_35 rfl rfl ?_
        refine av_iload K d_G_moduleSum_36 rfl ?_
        refine av_iload_n K d_G_moduleSum_38 rfl rfl ?_
        obtain ⟨_, eo39, h⟩ := hp_bd h
        obtain ⟨r2, er2, h⟩ := hp_bd h
        obtain ⟨fs39, ho39⟩ := hp_is_of eo39
        refine av_cVi K G (c_G_standsAlone (tab := tabON) er2) (cwV 2 K.2.2.2.2.1 (gV ml_G_37 im_G_standsAlone se_G_standsAlone in_G co_G_standsAlone) rfl rfl rfl cd_G_standsAlone ⟨Nat.le_of_ble_eq_true rfl, Nat.le_of_ble_eq_true rfl⟩) rfl ho39 rfl rfl (Nat.le_of_ble_eq_true rfl) d_G_moduleSum_39 ⟨Nat.zero_le _, Nat.zero_le _⟩ (fun a9 u9 h9 => ?_)
        obtain ⟨rfl, rfl⟩ : a9 = r2.1 ∧ u9 = r2.2 := ⟨congrArg Prod.fst h9, congrArg Prod.snd h9⟩
        refine av_if_eq (tgt := 52) K d_G_moduleSum_42 rfl (fun hc => ?_) (fun hc => ?_)
        · rw [if_pos hc] at h
          exact v_G_moduleSum_52 K G hr fu (f_G_moduleSum_14 fu n) ih (v0) (v2) (v3) (v4) _ h
        · rw [if_neg hc] at h
          refine av_iload_n K d_G_moduleSum_45 rfl rfl ?_
          refine av_iconst (v := (1 : Int32)) K d_G_moduleSum_46 (by decide) ?_
          refine av_iload K d_G_moduleSum_47 rfl ?_
          refine av_ishl K d_G_moduleSum_49 ?_
          refine av_ior K d_G_moduleSum_50 ?_
          refine av_istore_n K d_G_moduleSum_51 rfl (Nat.le_of_ble_eq_true rfl) rfl ?_
          exact v_G_moduleSum_52 K G hr fu (f_G_moduleSum_14 fu n) ih (v0) (v2) ((v3 ||| ((1 : Int32) <<< (v4 &&& 31)))) (v4) _ h
set_option maxRecDepth 100000 in
set_option maxHeartbeats 4000000 in
theorem v_G_moduleSum (K : av_K p s m args meth c D cl8 ca A b_G_moduleSum 5 R_G WS) (G : av_G NS tabON A s s.heap) (hr : meth.sig.returnType = some .int) (fu : Nat) {r : Int32 × List va_E} (v0 : Nat) (v1 : Int32) (w : List va_E) (h : f_G_moduleSum fu v0 v1 w = some r) : av_VI p l e rm_G_moduleSum s m args below meth c D cl8 A ad ca 5 r 0 [some (.ref v0), some (.int v1), none, none, none] [] w := by
  unfold f_G_moduleSum at h
  refine av_aload_n K d_G_moduleSum_0 rfl rfl ?_
  refine av_bipush (v := (16 : Int32)) K d_G_moduleSum_1 (by decide) ?_
  refine av_iload_n K d_G_moduleSum_3 rfl rfl ?_
  refine av_iadd K d_G_moduleSum_4 ?_
  obtain ⟨_, eo5, h⟩ := hp_bd h
  obtain ⟨r1, er1, h⟩ := hp_bd h
  obtain ⟨fs5, ho5⟩ := hp_is_of eo5
  refine av_cVi K G (c_G_withBelow (tab := tabON) er1) (cwV 1 K.2.2.2.2.1 (gV ml_G_34 im_G_withBelow se_G_withBelow in_G co_G_withBelow) rfl rfl rfl cd_G_withBelow ⟨Nat.le_of_ble_eq_true rfl, Nat.le_of_ble_eq_true rfl⟩) rfl ho5 rfl rfl (Nat.le_of_ble_eq_true rfl) d_G_moduleSum_5 ⟨Nat.zero_le _, Nat.zero_le _⟩ (fun a9 u9 h9 => ?_)
  obtain ⟨rfl, rfl⟩ : a9 = r1.1 ∧ u9 = r1.2 := ⟨congrArg Prod.fst h9, congrArg Prod.snd h9⟩
  refine av_istore_n K d_G_moduleSum_8 rfl (Nat.le_of_ble_eq_true rfl) rfl ?_
  refine av_iconst (v := (0 : Int32)) K d_G_moduleSum_9 (by decide) ?_
  refine av_istore_n K d_G_moduleSum_10 rfl (Nat.le_of_ble_eq_true rfl) rfl ?_
  refine av_iconst (v := (0 : Int32)) K d_G_moduleSum_11 (by decide) ?_
  refine av_istore K d_G_moduleSum_12 (Nat.le_of_ble_eq_true rfl) rfl ?_
  refine hv_fg [1] rfl ?_
  exact v_G_moduleSum_14 K G hr fu fu (v0) (r1.1) ((0 : Int32)) ((0 : Int32)) _ h
end
set_option maxRecDepth 100000 in
theorem c_G_moduleSum {l : Launch} {D : va_G} {ca : Nat → Nat} {tab : Nat → Int64} {fu : Nat} {v0 : Nat} {v1 : Int32} {w : List va_E} {r : Int32 × List va_E} (h : f_G_moduleSum fu v0 v1 w = some r) : av_Ci l D cl8 ca NS tabON y_G_moduleSum w_G_moduleSum rm_G_moduleSum [.ref v0, .int v1] w (fun v u => (v, u) = r) :=
  av_inI (cc := b_G_moduleSum) (nL := 5) (by decide +kernel) rfl (Nat.le_of_ble_eq_true rfl) (fun p e s m args below meth c A ad K G hr => v_G_moduleSum K G hr fu v0 v1 w h)
end
section
-- FaultTreeDesk$Truth.fillEvent(II)V
theorem d_T_fillEvent_0 : decode b_T_fillEvent 0 = .ok (.iconst 0, 1) := by decide +kernel
theorem d_T_fillEvent_1 : decode b_T_fillEvent 1 = .ok (.istore_n 3, 1) := by decide +kernel
theorem d_T_fillEvent_2 : decode b_T_fillEvent 2 = .ok (.iload_n 3, 1) := by decide +kernel
theorem d_T_fillEvent_3 : decode b_T_fillEvent 3 = .ok (.aload_n 0, 1) := by decide +kernel
theorem d_T_fillEvent_4 : decode b_T_fillEvent 4 = .ok (.getfield 24, 3) := by decide +kernel
theorem d_T_fillEvent_7 : decode b_T_fillEvent 7 = .ok (.if_icmp .ge 84, 3) := by decide +kernel
theorem d_T_fillEvent_10 : decode b_T_fillEvent 10 = .ok (.iload_n 2, 1) := by decide +kernel
theorem d_T_fillEvent_11 : decode b_T_fillEvent 11 = .ok (.ifCond .eq 26, 3) := by decide +kernel
theorem d_T_fillEvent_14 : decode b_T_fillEvent 14 = .ok (.aload_n 0, 1) := by decide +kernel
theorem d_T_fillEvent_15 : decode b_T_fillEvent 15 = .ok (.getfield 11, 3) := by decide +kernel
theorem d_T_fillEvent_18 : decode b_T_fillEvent 18 = .ok (.iload_n 1, 1) := by decide +kernel
theorem d_T_fillEvent_19 : decode b_T_fillEvent 19 = .ok (.aaload, 1) := by decide +kernel
theorem d_T_fillEvent_20 : decode b_T_fillEvent 20 = .ok (.iload_n 3, 1) := by decide +kernel
theorem d_T_fillEvent_21 : decode b_T_fillEvent 21 = .ok (.iload_n 2, 1) := by decide +kernel
theorem d_T_fillEvent_22 : decode b_T_fillEvent 22 = .ok (.iconst 2, 1) := by decide +kernel
theorem d_T_fillEvent_23 : decode b_T_fillEvent 23 = .ok (.if_icmp .ne 9, 3) := by decide +kernel
theorem d_T_fillEvent_26 : decode b_T_fillEvent 26 = .ok (.ldc2_w 52, 3) := by decide +kernel
theorem d_T_fillEvent_29 : decode b_T_fillEvent 29 = .ok (.goto 4, 3) := by decide +kernel
theorem d_T_fillEvent_32 : decode b_T_fillEvent 32 = .ok (.lconst 0, 1) := by decide +kernel
theorem d_T_fillEvent_33 : decode b_T_fillEvent 33 = .ok (.lastore, 1) := by decide +kernel
theorem d_T_fillEvent_34 : decode b_T_fillEvent 34 = .ok (.goto 51, 3) := by decide +kernel
theorem d_T_fillEvent_37 : decode b_T_fillEvent 37 = .ok (.iload_n 1, 1) := by decide +kernel
theorem d_T_fillEvent_38 : decode b_T_fillEvent 38 = .ok (.bipush 6, 2) := by decide +kernel
theorem d_T_fillEvent_40 : decode b_T_fillEvent 40 = .ok (.if_icmp .ge 19, 3) := by decide +kernel
theorem d_T_fillEvent_43 : decode b_T_fillEvent 43 = .ok (.aload_n 0, 1) := by decide +kernel
theorem d_T_fillEvent_44 : decode b_T_fillEvent 44 = .ok (.getfield 11, 3) := by decide +kernel
theorem d_T_fillEvent_47 : decode b_T_fillEvent 47 = .ok (.iload_n 1, 1) := by decide +kernel
theorem d_T_fillEvent_48 : decode b_T_fillEvent 48 = .ok (.aaload, 1) := by decide +kernel
theorem d_T_fillEvent_49 : decode b_T_fillEvent 49 = .ok (.iload_n 3, 1) := by decide +kernel
theorem d_T_fillEvent_50 : decode b_T_fillEvent 50 = .ok (.getstatic 54, 3) := by decide +kernel
theorem d_T_fillEvent_53 : decode b_T_fillEvent 53 = .ok (.iload_n 1, 1) := by decide +kernel
theorem d_T_fillEvent_54 : decode b_T_fillEvent 54 = .ok (.laload, 1) := by decide +kernel
theorem d_T_fillEvent_55 : decode b_T_fillEvent 55 = .ok (.lastore, 1) := by decide +kernel
theorem d_T_fillEvent_56 : decode b_T_fillEvent 56 = .ok (.goto 29, 3) := by decide +kernel
theorem d_T_fillEvent_59 : decode b_T_fillEvent 59 = .ok (.aload_n 0, 1) := by decide +kernel
theorem d_T_fillEvent_60 : decode b_T_fillEvent 60 = .ok (.getfield 11, 3) := by decide +kernel
theorem d_T_fillEvent_63 : decode b_T_fillEvent 63 = .ok (.iload_n 1, 1) := by decide +kernel
theorem d_T_fillEvent_64 : decode b_T_fillEvent 64 = .ok (.aaload, 1) := by decide +kernel
theorem d_T_fillEvent_65 : decode b_T_fillEvent 65 = .ok (.iload_n 3, 1) := by decide +kernel
theorem d_T_fillEvent_66 : decode b_T_fillEvent 66 = .ok (.iload_n 3, 1) := by decide +kernel
theorem d_T_fillEvent_67 : decode b_T_fillEvent 67 = .ok (.iload_n 1, 1) := by decide +kernel
theorem d_T_fillEvent_68 : decode b_T_fillEvent 68 = .ok (.bipush 6, 2) := by decide +kernel
theorem d_T_fillEvent_70 : decode b_T_fillEvent 70 = .ok (.isub, 1) := by decide +kernel
theorem d_T_fillEvent_71 : decode b_T_fillEvent 71 = .ok (.ishr, 1) := by decide +kernel
theorem d_T_fillEvent_72 : decode b_T_fillEvent 72 = .ok (.iconst 1, 1) := by decide +kernel
theorem d_T_fillEvent_73 : decode b_T_fillEvent 73 = .ok (.iand, 1) := by decide +kernel
theorem d_T_fillEvent_74 : decode b_T_fillEvent 74 = .ok (.ifCond .eq 9, 3) := by decide +kernel
theorem d_T_fillEvent_77 : decode b_T_fillEvent 77 = .ok (.ldc2_w 52, 3) := by decide +kernel
theorem d_T_fillEvent_80 : decode b_T_fillEvent 80 = .ok (.goto 4, 3) := by decide +kernel
theorem d_T_fillEvent_83 : decode b_T_fillEvent 83 = .ok (.lconst 0, 1) := by decide +kernel
theorem d_T_fillEvent_84 : decode b_T_fillEvent 84 = .ok (.lastore, 1) := by decide +kernel
theorem d_T_fillEvent_85 : decode b_T_fillEvent 85 = .ok (.iinc 3 1, 3) := by decide +kernel
theorem d_T_fillEvent_88 : decode b_T_fillEvent 88 = .ok (.goto (-86), 3) := by decide +kernel
theorem d_T_fillEvent_91 : decode b_T_fillEvent 91 = .ok (.return_, 1) := by decide +kernel
def rm_T_fillEvent : Room := { frames := 0, cells := 0, slots := 0, locals := 0 }
def f_T_fillEvent_85 (fu : Nat) (k2 : Nat → Int32 → Int32 → Int32 → List va_E → Option (List va_E)) (v0 : Nat) (v1 : Int32) (v2 : Int32) (v3 : Int32) (w : List va_E) : Option (List va_E) := (k2 (v0) (v1) (v2) ((v3 + (1 : Int32))) w)
def f_T_fillEvent_33 (fu : Nat) (k2 : Nat → Int32 → Int32 → Int32 → List va_E → Option (List va_E)) (v0 : Nat) (v1 : Int32) (v2 : Int32) (v3 : Int32) (s0 : Nat) (s1 : Int32) (s2 : Int64) (w : List va_E) : Option (List va_E) := ((hp_wl w s0 s1 s2).bind fun w1 => (f_T_fillEvent_85 fu k2 (v0) (v1) (v2) (v3) w1))
def f_T_fillEvent_84 (fu : Nat) (k2 : Nat → Int32 → Int32 → Int32 → List va_E → Option (List va_E)) (v0 : Nat) (v1 : Int32) (v2 : Int32) (v3 : Int32) (s0 : Nat) (s1 : Int32) (s2 : Int64) (w : List va_E) : Option (List va_E) := ((hp_wl w s0 s1 s2).bind fun w1 => (f_T_fillEvent_85 fu k2 (v0) (v1) (v2) (v3) w1))
def f_T_fillEvent_2 (fu : Nat) : Nat → Nat → Int32 → Int32 → Int32 → List va_E → Option (List va_E)
  | 0, _, _, _, _, _ => none
  | n + 1, v0, v1, v2, v3, w => ((hp_gi w v0 5 3).bind fun x1 => (if x1 ≤ v3 then (some w) else (if v2 = 0 then (if (6 : Int32) ≤ v1 then ((hp_gr w v0 5 0).bind fun q2 => ((hp_ra w q2 v1).bind fun q3 => (if ((v3 >>> ((v1 - (6 : Int32)) &&& 31)) &&& (1 : Int32)) = 0 then (f_T_fillEvent_84 fu (f_T_fillEvent_2 fu n) (v0) (v1) (v2) (v3) (q3) (v3) ((0 : Int64)) w) else (f_T_fillEvent_84 fu (f_T_fillEvent_2 fu n) (v0) (v1) (v2) (v3) (q3) (v3) ((-1 : Int64)) w)))) else ((hp_gr w v0 5 0).bind fun q4 => ((hp_ra w q4 v1).bind fun q5 => (if ¬ (v1 < 0 ∨ 6 ≤ (v1).toNatClampNeg) then ((hp_wl w q5 v3 (tabON (v1).toNatClampNeg)).bind fun w6 => (f_T_fillEvent_85 fu (f_T_fillEvent_2 fu n) (v0) (v1) (v2) (v3) w6)) else none)))) else ((hp_gr w v0 5 0).bind fun q7 => ((hp_ra w q7 v1).bind fun q8 => (if v2 = (2 : Int32) then (f_T_fillEvent_33 fu (f_T_fillEvent_2 fu n) (v0) (v1) (v2) (v3) (q8) (v3) ((-1 : Int64)) w) else (f_T_fillEvent_33 fu (f_T_fillEvent_2 fu n) (v0) (v1) (v2) (v3) (q8) (v3) ((0 : Int64)) w)))))))
def f_T_fillEvent (fu : Nat) (v0 : Nat) (v1 : Int32) (v2 : Int32) (w : List va_E) : Option (List va_E) := (f_T_fillEvent_2 fu fu (v0) (v1) (v2) ((0 : Int32)) w)
section
variable {p : Program} {l : Launch} {e : Env} {s : State} {m : MethodId} {args : Array Value} {below : List Frame} {meth : Method} {c : Code} {D : va_G} {ca : Nat → Nat} {A : Nat → Prop} {ad : Nat → Nat}
set_option maxRecDepth 100000 in
set_option maxHeartbeats 4000000 in
theorem v_T_fillEvent_85 (K : av_K p s m args meth c D cl8 ca A b_T_fillEvent 4 R_T WS) (G : av_G NS tabON A s s.heap) (hr : meth.sig.returnType = none) (fu : Nat) {r : List va_E} (k2 : Nat → Int32 → Int32 → Int32 → List va_E → Option (List va_E)) (hk2 : ∀ (v0 : Nat) (v1 : Int32) (v2 : Int32) (v3 : Int32) (w : List va_E), k2 v0 v1 v2 v3 w = some r → av_VV p l e rm_T_fillEvent s m args below meth c D cl8 A ad ca 4 r 2 [some (.ref v0), some (.int v1), some (.int v2), some (.int v3)] [] w) (v0 : Nat) (v1 : Int32) (v2 : Int32) (v3 : Int32) (w : List va_E) (h : f_T_fillEvent_85 fu k2 v0 v1 v2 v3 w = some r) : av_VV p l e rm_T_fillEvent s m args below meth c D cl8 A ad ca 4 r 85 [some (.ref v0), some (.int v1), some (.int v2), some (.int v3)] [] w := by
  unfold f_T_fillEvent_85 at h
  refine av_iinc (v := (v3 + (1 : Int32))) K d_T_fillEvent_85 rfl (congrArg (fun z => v3 + z) (show Int32.ofInt 1 = (1 : Int32) by decide)) (Nat.le_of_ble_eq_true rfl) rfl ?_
  refine av_goto (tgt := 2) K d_T_fillEvent_88 rfl ?_
  exact hk2 (v0) (v1) (v2) ((v3 + (1 : Int32))) _ h
set_option maxRecDepth 100000 in
set_option maxHeartbeats 4000000 in
theorem v_T_fillEvent_33 (K : av_K p s m args meth c D cl8 ca A b_T_fillEvent 4 R_T WS) (G : av_G NS tabON A s s.heap) (hr : meth.sig.returnType = none) (fu : Nat) {r : List va_E} (k2 : Nat → Int32 → Int32 → Int32 → List va_E → Option (List va_E)) (hk2 : ∀ (v0 : Nat) (v1 : Int32) (v2 : Int32) (v3 : Int32) (w : List va_E), k2 v0 v1 v2 v3 w = some r → av_VV p l e rm_T_fillEvent s m args below meth c D cl8 A ad ca 4 r 2 [some (.ref v0), some (.int v1), some (.int v2), some (.int v3)] [] w) (v0 : Nat) (v1 : Int32) (v2 : Int32) (v3 : Int32) (s0 : Nat) (s1 : Int32) (s2 : Int64) (w : List va_E) (h : f_T_fillEvent_33 fu k2 v0 v1 v2 v3 s0 s1 s2 w = some r) : av_VV p l e rm_T_fillEvent s m args below meth c D cl8 A ad ca 4 r 33 [some (.ref v0), some (.int v1), some (.int v2), some (.int v3)] [.long s2, .int s1, .ref s0] w := by
  unfold f_T_fillEvent_33 at h
  obtain ⟨w1, ew1, h⟩ := hp_bd h
  refine hv_wl K d_T_fillEvent_33 ew1 ?_
  refine av_goto (tgt := 85) K d_T_fillEvent_34 rfl ?_
  exact v_T_fillEvent_85 K G hr fu k2 hk2 (v0) (v1) (v2) (v3) _ h
set_option maxRecDepth 100000 in
set_option maxHeartbeats 4000000 in
theorem v_T_fillEvent_84 (K : av_K p s m args meth c D cl8 ca A b_T_fillEvent 4 R_T WS) (G : av_G NS tabON A s s.heap) (hr : meth.sig.returnType = none) (fu : Nat) {r : List va_E} (k2 : Nat → Int32 → Int32 → Int32 → List va_E → Option (List va_E)) (hk2 : ∀ (v0 : Nat) (v1 : Int32) (v2 : Int32) (v3 : Int32) (w : List va_E), k2 v0 v1 v2 v3 w = some r → av_VV p l e rm_T_fillEvent s m args below meth c D cl8 A ad ca 4 r 2 [some (.ref v0), some (.int v1), some (.int v2), some (.int v3)] [] w) (v0 : Nat) (v1 : Int32) (v2 : Int32) (v3 : Int32) (s0 : Nat) (s1 : Int32) (s2 : Int64) (w : List va_E) (h : f_T_fillEvent_84 fu k2 v0 v1 v2 v3 s0 s1 s2 w = some r) : av_VV p l e rm_T_fillEvent s m args below meth c D cl8 A ad ca 4 r 84 [some (.ref v0), some (.int v1), some (.int v2), some (.int v3)] [.long s2, .int s1, .ref s0] w := by
  unfold f_T_fillEvent_84 at h
  obtain ⟨w1, ew1, h⟩ := hp_bd h
  refine hv_wl K d_T_fillEvent_84 ew1 ?_
  exact v_T_fillEvent_85 K G hr fu k2 hk2 (v0) (v1) (v2) (v3) _ h
set_option maxRecDepth 100000 in
set_option maxHeartbeats 4000000 in
theorem v_T_fillEvent_2 (K : av_K p s m args meth c D cl8 ca A b_T_fillEvent 4 R_T WS) (G : av_G NS tabON A s s.heap) (hr : meth.sig.returnType = none) (fu : Nat) {r : List va_E} : ∀ (n : Nat) (v0 : Nat) (v1 : Int32) (v2 : Int32) (v3 : Int32) (w : List va_E), f_T_fillEvent_2 fu n v0 v1 v2 v3 w = some r → av_VV p l e rm_T_fillEvent s m args below meth c D cl8 A ad ca 4 r 2 [some (.ref v0), some (.int v1), some (.int v2), some (.int v3)] [] w := by
  intro n
  induction n with
  | zero => intro _ _ _ _ _ h; cases h
  | succ n ih =>
    intro v0 v1 v2 v3 w h
    unfold f_T_fillEvent_2 at h
    refine av_iload_n K d_T_fillEvent_2 rfl rfl ?_
    refine av_aload_n K d_T_fillEvent_3 rfl rfl ?_
    obtain ⟨x1, ex1, h⟩ := hp_bd h
    refine hv_gi K fl_T_24 d_T_fillEvent_4 ex1 ?_
    refine av_icmp_ge (tgt := 91) K d_T_fillEvent_7 rfl (fun hc => ?_) (fun hc => ?_)
    · rw [if_pos hc] at h
      cases h
      exact av_return K hr d_T_fillEvent_91 rfl
    · rw [if_neg hc] at h
      refine av_iload_n K d_T_fillEvent_10 rfl rfl ?_
      refine av_if_eq (tgt := 37) K d_T_fillEvent_11 rfl (fun hc => ?_) (fun hc => ?_)
      · rw [if_pos hc] at h
        refine av_iload_n K d_T_fillEvent_37 rfl rfl ?_
        refine av_bipush (v := (6 : Int32)) K d_T_fillEvent_38 (by decide) ?_
        refine av_icmp_ge (tgt := 59) K d_T_fillEvent_40 rfl (fun hc => ?_) (fun hc => ?_)
        · rw [if_pos hc] at h
          refine av_aload_n K d_T_fillEvent_59 rfl rfl ?_
          obtain ⟨q2, eq2, h⟩ := hp_bd h
          refine hv_gr K fl_T_11 d_T_fillEvent_60 eq2 ?_
          refine av_iload_n K d_T_fillEvent_63 rfl rfl ?_
          obtain ⟨q3, eq3, h⟩ := hp_bd h
          refine hv_ra K d_T_fillEvent_64 eq3 ?_
          refine av_iload_n K d_T_fillEvent_65 rfl rfl ?_
          refine av_iload_n K d_T_fillEvent_66 rfl rfl ?_
          refine av_iload_n K d_T_fillEvent_67 rfl rfl ?_
          refine av_bipush (v := (6 : Int32)) K d_T_fillEvent_68 (by decide) ?_
          refine av_isub K d_T_fillEvent_70 ?_
          refine av_ishr K d_T_fillEvent_71 ?_
          refine av_iconst (v := (1 : Int32)) K d_T_fillEvent_72 (by decide) ?_
          refine av_iand K d_T_fillEvent_73 ?_
          refine av_if_eq (tgt := 83) K d_T_fillEvent_74 rfl (fun hc => ?_) (fun hc => ?_)
          · rw [if_pos hc] at h
            refine av_lconst (v := (0 : Int64)) K d_T_fillEvent_83 (by decide) ?_
            exact v_T_fillEvent_84 K G hr fu (f_T_fillEvent_2 fu n) ih (v0) (v1) (v2) (v3) (q3) (v3) ((0 : Int64)) _ h
          · rw [if_neg hc] at h
            refine av_ldc2 K (cl_T_52) d_T_fillEvent_77 ?_
            refine av_goto (tgt := 84) K d_T_fillEvent_80 rfl ?_
            exact v_T_fillEvent_84 K G hr fu (f_T_fillEvent_2 fu n) ih (v0) (v1) (v2) (v3) (q3) (v3) ((-1 : Int64)) _ h
        · rw [if_neg hc] at h
          refine av_aload_n K d_T_fillEvent_43 rfl rfl ?_
          obtain ⟨q4, eq4, h⟩ := hp_bd h
          refine hv_gr K fl_T_11 d_T_fillEvent_44 eq4 ?_
          refine av_iload_n K d_T_fillEvent_47 rfl rfl ?_
          obtain ⟨q5, eq5, h⟩ := hp_bd h
          refine hv_ra K d_T_fillEvent_48 eq5 ?_
          refine av_iload_n K d_T_fillEvent_49 rfl rfl ?_
          obtain ⟨hi53, h⟩ := hp_if h
          refine av_tab K G st_T d_T_fillEvent_50 (fun H locs ls rest hL hk => lv_iload_n K.1 K.2.1 d_T_fillEvent_53 rfl (hL.2.2 1 _ rfl) hk) d_T_fillEvent_54 hi53 ?_
          obtain ⟨w6, ew6, h⟩ := hp_bd h
          refine hv_wl K d_T_fillEvent_55 ew6 ?_
          refine av_goto (tgt := 85) K d_T_fillEvent_56 rfl ?_
          exact v_T_fillEvent_85 K G hr fu (f_T_fillEvent_2 fu n) ih (v0) (v1) (v2) (v3) _ h
      · rw [if_neg hc] at h
        refine av_aload_n K d_T_fillEvent_14 rfl rfl ?_
        obtain ⟨q7, eq7, h⟩ := hp_bd h
        refine hv_gr K fl_T_11 d_T_fillEvent_15 eq7 ?_
        refine av_iload_n K d_T_fillEvent_18 rfl rfl ?_
        obtain ⟨q8, eq8, h⟩ := hp_bd h
        refine hv_ra K d_T_fillEvent_19 eq8 ?_
        refine av_iload_n K d_T_fillEvent_20 rfl rfl ?_
        refine av_iload_n K d_T_fillEvent_21 rfl rfl ?_
        refine av_iconst (v := (2 : Int32)) K d_T_fillEvent_22 (by decide) ?_
        refine av_icmp_ne (tgt := 32) K d_T_fillEvent_23 rfl (fun hc => ?_) (fun hc => ?_)
        · rw [if_neg hc] at h
          refine av_lconst (v := (0 : Int64)) K d_T_fillEvent_32 (by decide) ?_
          exact v_T_fillEvent_33 K G hr fu (f_T_fillEvent_2 fu n) ih (v0) (v1) (v2) (v3) (q8) (v3) ((0 : Int64)) _ h
        · rw [if_pos hc] at h
          refine av_ldc2 K (cl_T_52) d_T_fillEvent_26 ?_
          refine av_goto (tgt := 33) K d_T_fillEvent_29 rfl ?_
          exact v_T_fillEvent_33 K G hr fu (f_T_fillEvent_2 fu n) ih (v0) (v1) (v2) (v3) (q8) (v3) ((-1 : Int64)) _ h
set_option maxRecDepth 100000 in
set_option maxHeartbeats 4000000 in
theorem v_T_fillEvent (K : av_K p s m args meth c D cl8 ca A b_T_fillEvent 4 R_T WS) (G : av_G NS tabON A s s.heap) (hr : meth.sig.returnType = none) (fu : Nat) {r : List va_E} (v0 : Nat) (v1 : Int32) (v2 : Int32) (w : List va_E) (h : f_T_fillEvent fu v0 v1 v2 w = some r) : av_VV p l e rm_T_fillEvent s m args below meth c D cl8 A ad ca 4 r 0 [some (.ref v0), some (.int v1), some (.int v2), none] [] w := by
  unfold f_T_fillEvent at h
  refine av_iconst (v := (0 : Int32)) K d_T_fillEvent_0 (by decide) ?_
  refine av_istore_n K d_T_fillEvent_1 rfl (Nat.le_of_ble_eq_true rfl) rfl ?_
  exact v_T_fillEvent_2 K G hr fu fu (v0) (v1) (v2) ((0 : Int32)) _ h
end
set_option maxRecDepth 100000 in
theorem c_T_fillEvent {l : Launch} {D : va_G} {ca : Nat → Nat} {tab : Nat → Int64} {fu : Nat} {v0 : Nat} {v1 : Int32} {v2 : Int32} {w : List va_E} {r : List va_E} (h : f_T_fillEvent fu v0 v1 v2 w = some r) : av_Cv l D cl8 ca NS tabON y_T_fillEvent w_T_fillEvent rm_T_fillEvent [.ref v0, .int v1, .int v2] w (fun u => u = r) :=
  av_inV (cc := b_T_fillEvent) (nL := 4) (by decide +kernel) rfl (Nat.le_of_ble_eq_true rfl) (fun p e s m args below meth c A ad K G hr => v_T_fillEvent K G hr fu v0 v1 v2 w h)

-- FaultTreeDesk$Truth.listInputs(I)I
theorem d_T_listInputs_0 : decode b_T_listInputs 0 = .ok (.iconst 0, 1) := by decide +kernel
theorem d_T_listInputs_1 : decode b_T_listInputs 1 = .ok (.istore_n 2, 1) := by decide +kernel
theorem d_T_listInputs_2 : decode b_T_listInputs 2 = .ok (.iconst 0, 1) := by decide +kernel
theorem d_T_listInputs_3 : decode b_T_listInputs 3 = .ok (.istore_n 3, 1) := by decide +kernel
theorem d_T_listInputs_4 : decode b_T_listInputs 4 = .ok (.iload_n 3, 1) := by decide +kernel
theorem d_T_listInputs_5 : decode b_T_listInputs 5 = .ok (.bipush 28, 2) := by decide +kernel
theorem d_T_listInputs_7 : decode b_T_listInputs 7 = .ok (.if_icmp .ge 32, 3) := by decide +kernel
theorem d_T_listInputs_10 : decode b_T_listInputs 10 = .ok (.iload_n 2, 1) := by decide +kernel
theorem d_T_listInputs_11 : decode b_T_listInputs 11 = .ok (.iconst 4, 1) := by decide +kernel
theorem d_T_listInputs_12 : decode b_T_listInputs 12 = .ok (.if_icmp .ge 27, 3) := by decide +kernel
theorem d_T_listInputs_15 : decode b_T_listInputs 15 = .ok (.iload_n 1, 1) := by decide +kernel
theorem d_T_listInputs_16 : decode b_T_listInputs 16 = .ok (.iload_n 3, 1) := by decide +kernel
theorem d_T_listInputs_17 : decode b_T_listInputs 17 = .ok (.ishr, 1) := by decide +kernel
theorem d_T_listInputs_18 : decode b_T_listInputs 18 = .ok (.iconst 1, 1) := by decide +kernel
theorem d_T_listInputs_19 : decode b_T_listInputs 19 = .ok (.iand, 1) := by decide +kernel
theorem d_T_listInputs_20 : decode b_T_listInputs 20 = .ok (.ifCond .eq 13, 3) := by decide +kernel
theorem d_T_listInputs_23 : decode b_T_listInputs 23 = .ok (.aload_n 0, 1) := by decide +kernel
theorem d_T_listInputs_24 : decode b_T_listInputs 24 = .ok (.getfield 16, 3) := by decide +kernel
theorem d_T_listInputs_27 : decode b_T_listInputs 27 = .ok (.iload_n 2, 1) := by decide +kernel
theorem d_T_listInputs_28 : decode b_T_listInputs 28 = .ok (.iload_n 3, 1) := by decide +kernel
theorem d_T_listInputs_29 : decode b_T_listInputs 29 = .ok (.iastore, 1) := by decide +kernel
theorem d_T_listInputs_30 : decode b_T_listInputs 30 = .ok (.iinc 2 1, 3) := by decide +kernel
theorem d_T_listInputs_33 : decode b_T_listInputs 33 = .ok (.iinc 3 1, 3) := by decide +kernel
theorem d_T_listInputs_36 : decode b_T_listInputs 36 = .ok (.goto (-32), 3) := by decide +kernel
theorem d_T_listInputs_39 : decode b_T_listInputs 39 = .ok (.iload_n 2, 1) := by decide +kernel
theorem d_T_listInputs_40 : decode b_T_listInputs 40 = .ok (.ireturn, 1) := by decide +kernel
def rm_T_listInputs : Room := { frames := 0, cells := 0, slots := 0, locals := 0 }
def f_T_listInputs_33 (fu : Nat) (k4 : Nat → Int32 → Int32 → Int32 → List va_E → Option (Int32 × List va_E)) (v0 : Nat) (v1 : Int32) (v2 : Int32) (v3 : Int32) (w : List va_E) : Option (Int32 × List va_E) := (k4 (v0) (v1) (v2) ((v3 + (1 : Int32))) w)
def f_T_listInputs_39 (fu : Nat) (v2 : Int32) (w : List va_E) : Option (Int32 × List va_E) := (some (v2, w))
def f_T_listInputs_4 (fu : Nat) : Nat → Nat → Int32 → Int32 → Int32 → List va_E → Option (Int32 × List va_E)
  | 0, _, _, _, _, _ => none
  | n + 1, v0, v1, v2, v3, w => (if (28 : Int32) ≤ v3 then (f_T_listInputs_39 fu (v2) w) else (if (4 : Int32) ≤ v2 then (f_T_listInputs_39 fu (v2) w) else (if ((v1 >>> (v3 &&& 31)) &&& (1 : Int32)) = 0 then (f_T_listInputs_33 fu (f_T_listInputs_4 fu n) (v0) (v1) (v2) (v3) w) else ((hp_gr w v0 5 1).bind fun q1 => ((hp_wi w q1 v2 v3).bind fun w2 => (f_T_listInputs_33 fu (f_T_listInputs_4 fu n) (v0) (v1) ((v2 + (1 : Int32))) (v3) w2))))))
def f_T_listInputs (fu : Nat) (v0 : Nat) (v1 : Int32) (w : List va_E) : Option (Int32 × List va_E) := (f_T_listInputs_4 fu fu (v0) (v1) ((0 : Int32)) ((0 : Int32)) w)
section
variable {p : Program} {l : Launch} {e : Env} {s : State} {m : MethodId} {args : Array Value} {below : List Frame} {meth : Method} {c : Code} {D : va_G} {ca : Nat → Nat} {A : Nat → Prop} {ad : Nat → Nat}
set_option maxRecDepth 100000 in
set_option maxHeartbeats 4000000 in
theorem v_T_listInputs_33 (K : av_K p s m args meth c D cl8 ca A b_T_listInputs 4 R_T WS) (G : av_G NS tabON A s s.heap) (hr : meth.sig.returnType = some .int) (fu : Nat) {r : Int32 × List va_E} (k4 : Nat → Int32 → Int32 → Int32 → List va_E → Option (Int32 × List va_E)) (hk4 : ∀ (v0 : Nat) (v1 : Int32) (v2 : Int32) (v3 : Int32) (w : List va_E), k4 v0 v1 v2 v3 w = some r → av_VI p l e rm_T_listInputs s m args below meth c D cl8 A ad ca 4 r 4 [some (.ref v0), some (.int v1), some (.int v2), some (.int v3)] [] w) (v0 : Nat) (v1 : Int32) (v2 : Int32) (v3 : Int32) (w : List va_E) (h : f_T_listInputs_33 fu k4 v0 v1 v2 v3 w = some r) : av_VI p l e rm_T_listInputs s m args below meth c D cl8 A ad ca 4 r 33 [some (.ref v0), some (.int v1), some (.int v2), some (.int v3)] [] w := by
  unfold f_T_listInputs_33 at h
  refine av_iinc (v := (v3 + (1 : Int32))) K d_T_listInputs_33 rfl (congrArg (fun z => v3 + z) (show Int32.ofInt 1 = (1 : Int32) by decide)) (Nat.le_of_ble_eq_true rfl) rfl ?_
  refine av_goto (tgt := 4) K d_T_listInputs_36 rfl ?_
  exact hk4 (v0) (v1) (v2) ((v3 + (1 : Int32))) _ h
set_option maxRecDepth 100000 in
set_option maxHeartbeats 4000000 in
theorem v_T_listInputs_39 (K : av_K p s m args meth c D cl8 ca A b_T_listInputs 4 R_T WS) (G : av_G NS tabON A s s.heap) (hr : meth.sig.returnType = some .int) (fu : Nat) {r : Int32 × List va_E} (v2 : Int32) (w : List va_E) (h : f_T_listInputs_39 fu v2 w = some r) : av_VI p l e rm_T_listInputs s m args below meth c D cl8 A ad ca 4 r 39 [none, none, some (.int v2), none] [] w := by
  unfold f_T_listInputs_39 at h
  refine av_iload_n K d_T_listInputs_39 rfl rfl ?_
  cases h
  exact av_ireturn K hr d_T_listInputs_40 rfl
set_option maxRecDepth 100000 in
set_option maxHeartbeats 4000000 in
theorem v_T_listInputs_4 (K : av_K p s m args meth c D cl8 ca A b_T_listInputs 4 R_T WS) (G : av_G NS tabON A s s.heap) (hr : meth.sig.returnType = some .int) (fu : Nat) {r : Int32 × List va_E} : ∀ (n : Nat) (v0 : Nat) (v1 : Int32) (v2 : Int32) (v3 : Int32) (w : List va_E), f_T_listInputs_4 fu n v0 v1 v2 v3 w = some r → av_VI p l e rm_T_listInputs s m args below meth c D cl8 A ad ca 4 r 4 [some (.ref v0), some (.int v1), some (.int v2), some (.int v3)] [] w := by
  intro n
  induction n with
  | zero => intro _ _ _ _ _ h; cases h
  | succ n ih =>
    intro v0 v1 v2 v3 w h
    unfold f_T_listInputs_4 at h
    refine av_iload_n K d_T_listInputs_4 rfl rfl ?_
    refine av_bipush (v := (28 : Int32)) K d_T_listInputs_5 (by decide) ?_
    refine av_icmp_ge (tgt := 39) K d_T_listInputs_7 rfl (fun hc => ?_) (fun hc => ?_)
    · rw [if_pos hc] at h
      refine hv_fg [0, 1, 3] rfl ?_
      exact v_T_listInputs_39 K G hr fu (v2) _ h
    · rw [if_neg hc] at h
      refine av_iload_n K d_T_listInputs_10 rfl rfl ?_
      refine av_iconst (v := (4 : Int32)) K d_T_listInputs_11 (by decide) ?_
      refine av_icmp_ge (tgt := 39) K d_T_listInputs_12 rfl (fun hc => ?_) (fun hc => ?_)
      · rw [if_pos hc] at h
        refine hv_fg [0, 1, 3] rfl ?_
        exact v_T_listInputs_39 K G hr fu (v2) _ h
      · rw [if_neg hc] at h
        refine av_iload_n K d_T_listInputs_15 rfl rfl ?_
        refine av_iload_n K d_T_listInputs_16 rfl rfl ?_
        refine av_ishr K d_T_listInputs_17 ?_
        refine av_iconst (v := (1 : Int32)) K d_T_listInputs_18 (by decide) ?_
        refine av_iand K d_T_listInputs_19 ?_
        refine av_if_eq (tgt := 33) K d_T_listInputs_20 rfl (fun hc => ?_) (fun hc => ?_)
        · rw [if_pos hc] at h
          exact v_T_listInputs_33 K G hr fu (f_T_listInputs_4 fu n) ih (v0) (v1) (v2) (v3) _ h
        · rw [if_neg hc] at h
          refine av_aload_n K d_T_listInputs_23 rfl rfl ?_
          obtain ⟨q1, eq1, h⟩ := hp_bd h
          refine hv_gr K fl_T_16 d_T_listInputs_24 eq1 ?_
          refine av_iload_n K d_T_listInputs_27 rfl rfl ?_
          refine av_iload_n K d_T_listInputs_28 rfl rfl ?_
          obtain ⟨w2, ew2, h⟩ := hp_bd h
          refine hv_wi K d_T_listInputs_29 ew2 ?_
          refine av_iinc (v := (v2 + (1 : Int32))) K d_T_listInputs_30 rfl (congrArg (fun z => v2 + z) (show Int32.ofInt 1 = (1 : Int32) by decide)) (Nat.le_of_ble_eq_true rfl) rfl ?_
          exact v_T_listInputs_33 K G hr fu (f_T_listInputs_4 fu n) ih (v0) (v1) ((v2 + (1 : Int32))) (v3) _ h
set_option maxRecDepth 100000 in
set_option maxHeartbeats 4000000 in
theorem v_T_listInputs (K : av_K p s m args meth c D cl8 ca A b_T_listInputs 4 R_T WS) (G : av_G NS tabON A s s.heap) (hr : meth.sig.returnType = some .int) (fu : Nat) {r : Int32 × List va_E} (v0 : Nat) (v1 : Int32) (w : List va_E) (h : f_T_listInputs fu v0 v1 w = some r) : av_VI p l e rm_T_listInputs s m args below meth c D cl8 A ad ca 4 r 0 [some (.ref v0), some (.int v1), none, none] [] w := by
  unfold f_T_listInputs at h
  refine av_iconst (v := (0 : Int32)) K d_T_listInputs_0 (by decide) ?_
  refine av_istore_n K d_T_listInputs_1 rfl (Nat.le_of_ble_eq_true rfl) rfl ?_
  refine av_iconst (v := (0 : Int32)) K d_T_listInputs_2 (by decide) ?_
  refine av_istore_n K d_T_listInputs_3 rfl (Nat.le_of_ble_eq_true rfl) rfl ?_
  exact v_T_listInputs_4 K G hr fu fu (v0) (v1) ((0 : Int32)) ((0 : Int32)) _ h
end
set_option maxRecDepth 100000 in
theorem c_T_listInputs {l : Launch} {D : va_G} {ca : Nat → Nat} {tab : Nat → Int64} {fu : Nat} {v0 : Nat} {v1 : Int32} {w : List va_E} {r : Int32 × List va_E} (h : f_T_listInputs fu v0 v1 w = some r) : av_Ci l D cl8 ca NS tabON y_T_listInputs w_T_listInputs rm_T_listInputs [.ref v0, .int v1] w (fun v u => (v, u) = r) :=
  av_inI (cc := b_T_listInputs) (nL := 4) (by decide +kernel) rfl (Nat.le_of_ble_eq_true rfl) (fun p e s m args below meth c A ad K G hr => v_T_listInputs K G hr fu v0 v1 w h)

-- FaultTreeDesk$Truth.oddWord(II)J
theorem d_T_oddWord_0 : decode b_T_oddWord 0 = .ok (.lconst 0, 1) := by decide +kernel
theorem d_T_oddWord_1 : decode b_T_oddWord 1 = .ok (.lstore_n 3, 1) := by decide +kernel
theorem d_T_oddWord_2 : decode b_T_oddWord 2 = .ok (.iconst 0, 1) := by decide +kernel
theorem d_T_oddWord_3 : decode b_T_oddWord 3 = .ok (.istore 5, 2) := by decide +kernel
theorem d_T_oddWord_5 : decode b_T_oddWord 5 = .ok (.iload 5, 2) := by decide +kernel
theorem d_T_oddWord_7 : decode b_T_oddWord 7 = .ok (.iload_n 1, 1) := by decide +kernel
theorem d_T_oddWord_8 : decode b_T_oddWord 8 = .ok (.if_icmp .ge 26, 3) := by decide +kernel
theorem d_T_oddWord_11 : decode b_T_oddWord 11 = .ok (.lload_n 3, 1) := by decide +kernel
theorem d_T_oddWord_12 : decode b_T_oddWord 12 = .ok (.aload_n 0, 1) := by decide +kernel
theorem d_T_oddWord_13 : decode b_T_oddWord 13 = .ok (.getfield 11, 3) := by decide +kernel
theorem d_T_oddWord_16 : decode b_T_oddWord 16 = .ok (.aload_n 0, 1) := by decide +kernel
theorem d_T_oddWord_17 : decode b_T_oddWord 17 = .ok (.getfield 16, 3) := by decide +kernel
theorem d_T_oddWord_20 : decode b_T_oddWord 20 = .ok (.iload 5, 2) := by decide +kernel
theorem d_T_oddWord_22 : decode b_T_oddWord 22 = .ok (.iaload, 1) := by decide +kernel
theorem d_T_oddWord_23 : decode b_T_oddWord 23 = .ok (.aaload, 1) := by decide +kernel
theorem d_T_oddWord_24 : decode b_T_oddWord 24 = .ok (.iload_n 2, 1) := by decide +kernel
theorem d_T_oddWord_25 : decode b_T_oddWord 25 = .ok (.laload, 1) := by decide +kernel
theorem d_T_oddWord_26 : decode b_T_oddWord 26 = .ok (.lxor, 1) := by decide +kernel
theorem d_T_oddWord_27 : decode b_T_oddWord 27 = .ok (.lstore_n 3, 1) := by decide +kernel
theorem d_T_oddWord_28 : decode b_T_oddWord 28 = .ok (.iinc 5 1, 3) := by decide +kernel
theorem d_T_oddWord_31 : decode b_T_oddWord 31 = .ok (.goto (-26), 3) := by decide +kernel
theorem d_T_oddWord_34 : decode b_T_oddWord 34 = .ok (.lload_n 3, 1) := by decide +kernel
theorem d_T_oddWord_35 : decode b_T_oddWord 35 = .ok (.lreturn, 1) := by decide +kernel
def rm_T_oddWord : Room := { frames := 0, cells := 0, slots := 0, locals := 0 }
def f_T_oddWord_5 (fu : Nat) : Nat → Nat → Int32 → Int32 → Int64 → Int32 → List va_E → Option (Int64 × List va_E)
  | 0, _, _, _, _, _, _ => none
  | n + 1, v0, v1, v2, v3, v5, w => (if v1 ≤ v5 then (some (v3, w)) else ((hp_gr w v0 5 0).bind fun q1 => ((hp_gr w v0 5 1).bind fun q2 => ((hp_ri w q2 v5).bind fun x3 => ((hp_ra w q1 x3).bind fun q4 => ((hp_rl w q4 v2).bind fun y5 => (f_T_oddWord_5 fu n (v0) (v1) (v2) ((v3 ^^^ y5)) ((v5 + (1 : Int32))) w)))))))
def f_T_oddWord (fu : Nat) (v0 : Nat) (v1 : Int32) (v2 : Int32) (w : List va_E) : Option (Int64 × List va_E) := (f_T_oddWord_5 fu fu (v0) (v1) (v2) ((0 : Int64)) ((0 : Int32)) w)
section
variable {p : Program} {l : Launch} {e : Env} {s : State} {m : MethodId} {args : Array Value} {below : List Frame} {meth : Method} {c : Code} {D : va_G} {ca : Nat → Nat} {A : Nat → Prop} {ad : Nat → Nat}
set_option maxRecDepth 100000 in
set_option maxHeartbeats 4000000 in
theorem v_T_oddWord_5 (K : av_K p s m args meth c D cl8 ca A b_T_oddWord 6 R_T WS) (G : av_G NS tabON A s s.heap) (hr : meth.sig.returnType = some .long) (fu : Nat) {r : Int64 × List va_E} : ∀ (n : Nat) (v0 : Nat) (v1 : Int32) (v2 : Int32) (v3 : Int64) (v5 : Int32) (w : List va_E), f_T_oddWord_5 fu n v0 v1 v2 v3 v5 w = some r → av_VL p l e rm_T_oddWord s m args below meth c D cl8 A ad ca 6 r 5 [some (.ref v0), some (.int v1), some (.int v2), some (.long v3), none, some (.int v5)] [] w := by
  intro n
  induction n with
  | zero => intro _ _ _ _ _ _ h; cases h
  | succ n ih =>
    intro v0 v1 v2 v3 v5 w h
    unfold f_T_oddWord_5 at h
    refine av_iload K d_T_oddWord_5 rfl ?_
    refine av_iload_n K d_T_oddWord_7 rfl rfl ?_
    refine av_icmp_ge (tgt := 34) K d_T_oddWord_8 rfl (fun hc => ?_) (fun hc => ?_)
    · rw [if_pos hc] at h
      refine av_lload_n K d_T_oddWord_34 rfl rfl ?_
      cases h
      exact av_lreturn K hr d_T_oddWord_35 rfl
    · rw [if_neg hc] at h
      refine av_lload_n K d_T_oddWord_11 rfl rfl ?_
      refine av_aload_n K d_T_oddWord_12 rfl rfl ?_
      obtain ⟨q1, eq1, h⟩ := hp_bd h
      refine hv_gr K fl_T_11 d_T_oddWord_13 eq1 ?_
      refine av_aload_n K d_T_oddWord_16 rfl rfl ?_
      obtain ⟨q2, eq2, h⟩ := hp_bd h
      refine hv_gr K fl_T_16 d_T_oddWord_17 eq2 ?_
      refine av_iload K d_T_oddWord_20 rfl ?_
      obtain ⟨x3, ex3, h⟩ := hp_bd h
      refine hv_ri K d_T_oddWord_22 ex3 ?_
      obtain ⟨q4, eq4, h⟩ := hp_bd h
      refine hv_ra K d_T_oddWord_23 eq4 ?_
      refine av_iload_n K d_T_oddWord_24 rfl rfl ?_
      obtain ⟨y5, ey5, h⟩ := hp_bd h
      refine hv_rl K d_T_oddWord_25 ey5 ?_
      refine av_lxor K d_T_oddWord_26 ?_
      refine av_lstore_n K d_T_oddWord_27 rfl (Nat.le_of_ble_eq_true rfl) rfl ?_
      refine av_iinc (v := (v5 + (1 : Int32))) K d_T_oddWord_28 rfl (congrArg (fun z => v5 + z) (show Int32.ofInt 1 = (1 : Int32) by decide)) (Nat.le_of_ble_eq_true rfl) rfl ?_
      refine av_goto (tgt := 5) K d_T_oddWord_31 rfl ?_
      exact ih (v0) (v1) (v2) ((v3 ^^^ y5)) ((v5 + (1 : Int32))) _ h
set_option maxRecDepth 100000 in
set_option maxHeartbeats 4000000 in
theorem v_T_oddWord (K : av_K p s m args meth c D cl8 ca A b_T_oddWord 6 R_T WS) (G : av_G NS tabON A s s.heap) (hr : meth.sig.returnType = some .long) (fu : Nat) {r : Int64 × List va_E} (v0 : Nat) (v1 : Int32) (v2 : Int32) (w : List va_E) (h : f_T_oddWord fu v0 v1 v2 w = some r) : av_VL p l e rm_T_oddWord s m args below meth c D cl8 A ad ca 6 r 0 [some (.ref v0), some (.int v1), some (.int v2), none, none, none] [] w := by
  unfold f_T_oddWord at h
  refine av_lconst (v := (0 : Int64)) K d_T_oddWord_0 (by decide) ?_
  refine av_lstore_n K d_T_oddWord_1 rfl (Nat.le_of_ble_eq_true rfl) rfl ?_
  refine av_iconst (v := (0 : Int32)) K d_T_oddWord_2 (by decide) ?_
  refine av_istore K d_T_oddWord_3 (Nat.le_of_ble_eq_true rfl) rfl ?_
  exact v_T_oddWord_5 K G hr fu fu (v0) (v1) (v2) ((0 : Int64)) ((0 : Int32)) _ h
end
set_option maxRecDepth 100000 in
theorem c_T_oddWord {l : Launch} {D : va_G} {ca : Nat → Nat} {tab : Nat → Int64} {fu : Nat} {v0 : Nat} {v1 : Int32} {v2 : Int32} {w : List va_E} {r : Int64 × List va_E} (h : f_T_oddWord fu v0 v1 v2 w = some r) : av_Cl l D cl8 ca NS tabON y_T_oddWord w_T_oddWord rm_T_oddWord [.ref v0, .int v1, .int v2] w (fun v u => (v, u) = r) :=
  av_inL (cc := b_T_oddWord) (nL := 6) (by decide +kernel) rfl (Nat.le_of_ble_eq_true rfl) (fun p e s m args below meth c A ad K G hr => v_T_oddWord K G hr fu v0 v1 v2 w h)

-- FaultTreeDesk$Truth.atLeastWord(III)J
theorem d_T_atLeastWord_0 : decode b_T_atLeastWord 0 = .ok (.lconst 0, 1) := by decide +kernel
theorem d_T_atLeastWord_1 : decode b_T_atLeastWord 1 = .ok (.lstore 4, 2) := by decide +kernel
theorem d_T_atLeastWord_3 : decode b_T_atLeastWord 3 = .ok (.lconst 0, 1) := by decide +kernel
theorem d_T_atLeastWord_4 : decode b_T_atLeastWord 4 = .ok (.lstore 6, 2) := by decide +kernel
theorem d_T_atLeastWord_6 : decode b_T_atLeastWord 6 = .ok (.lconst 0, 1) := by decide +kernel
theorem d_T_atLeastWord_7 : decode b_T_atLeastWord 7 = .ok (.lstore 8, 2) := by decide +kernel
theorem d_T_atLeastWord_9 : decode b_T_atLeastWord 9 = .ok (.lconst 0, 1) := by decide +kernel
theorem d_T_atLeastWord_10 : decode b_T_atLeastWord 10 = .ok (.lstore 10, 2) := by decide +kernel
theorem d_T_atLeastWord_12 : decode b_T_atLeastWord 12 = .ok (.iconst 0, 1) := by decide +kernel
theorem d_T_atLeastWord_13 : decode b_T_atLeastWord 13 = .ok (.istore 12, 2) := by decide +kernel
theorem d_T_atLeastWord_15 : decode b_T_atLeastWord 15 = .ok (.iload 12, 2) := by decide +kernel
theorem d_T_atLeastWord_17 : decode b_T_atLeastWord 17 = .ok (.iload_n 2, 1) := by decide +kernel
theorem d_T_atLeastWord_18 : decode b_T_atLeastWord 18 = .ok (.if_icmp .ge 62, 3) := by decide +kernel
theorem d_T_atLeastWord_21 : decode b_T_atLeastWord 21 = .ok (.aload_n 0, 1) := by decide +kernel
theorem d_T_atLeastWord_22 : decode b_T_atLeastWord 22 = .ok (.getfield 11, 3) := by decide +kernel
theorem d_T_atLeastWord_25 : decode b_T_atLeastWord 25 = .ok (.aload_n 0, 1) := by decide +kernel
theorem d_T_atLeastWord_26 : decode b_T_atLeastWord 26 = .ok (.getfield 16, 3) := by decide +kernel
theorem d_T_atLeastWord_29 : decode b_T_atLeastWord 29 = .ok (.iload 12, 2) := by decide +kernel
theorem d_T_atLeastWord_31 : decode b_T_atLeastWord 31 = .ok (.iaload, 1) := by decide +kernel
theorem d_T_atLeastWord_32 : decode b_T_atLeastWord 32 = .ok (.aaload, 1) := by decide +kernel
theorem d_T_atLeastWord_33 : decode b_T_atLeastWord 33 = .ok (.iload_n 3, 1) := by decide +kernel
theorem d_T_atLeastWord_34 : decode b_T_atLeastWord 34 = .ok (.laload, 1) := by decide +kernel
theorem d_T_atLeastWord_35 : decode b_T_atLeastWord 35 = .ok (.lstore 13, 2) := by decide +kernel
theorem d_T_atLeastWord_37 : decode b_T_atLeastWord 37 = .ok (.lload 10, 2) := by decide +kernel
theorem d_T_atLeastWord_39 : decode b_T_atLeastWord 39 = .ok (.lload 8, 2) := by decide +kernel
theorem d_T_atLeastWord_41 : decode b_T_atLeastWord 41 = .ok (.lload 13, 2) := by decide +kernel
theorem d_T_atLeastWord_43 : decode b_T_atLeastWord 43 = .ok (.land, 1) := by decide +kernel
theorem d_T_atLeastWord_44 : decode b_T_atLeastWord 44 = .ok (.lor, 1) := by decide +kernel
theorem d_T_atLeastWord_45 : decode b_T_atLeastWord 45 = .ok (.lstore 10, 2) := by decide +kernel
theorem d_T_atLeastWord_47 : decode b_T_atLeastWord 47 = .ok (.lload 8, 2) := by decide +kernel
theorem d_T_atLeastWord_49 : decode b_T_atLeastWord 49 = .ok (.lload 6, 2) := by decide +kernel
theorem d_T_atLeastWord_51 : decode b_T_atLeastWord 51 = .ok (.lload 13, 2) := by decide +kernel
theorem d_T_atLeastWord_53 : decode b_T_atLeastWord 53 = .ok (.land, 1) := by decide +kernel
theorem d_T_atLeastWord_54 : decode b_T_atLeastWord 54 = .ok (.lor, 1) := by decide +kernel
theorem d_T_atLeastWord_55 : decode b_T_atLeastWord 55 = .ok (.lstore 8, 2) := by decide +kernel
theorem d_T_atLeastWord_57 : decode b_T_atLeastWord 57 = .ok (.lload 6, 2) := by decide +kernel
theorem d_T_atLeastWord_59 : decode b_T_atLeastWord 59 = .ok (.lload 4, 2) := by decide +kernel
theorem d_T_atLeastWord_61 : decode b_T_atLeastWord 61 = .ok (.lload 13, 2) := by decide +kernel
theorem d_T_atLeastWord_63 : decode b_T_atLeastWord 63 = .ok (.land, 1) := by decide +kernel
theorem d_T_atLeastWord_64 : decode b_T_atLeastWord 64 = .ok (.lor, 1) := by decide +kernel
theorem d_T_atLeastWord_65 : decode b_T_atLeastWord 65 = .ok (.lstore 6, 2) := by decide +kernel
theorem d_T_atLeastWord_67 : decode b_T_atLeastWord 67 = .ok (.lload 4, 2) := by decide +kernel
theorem d_T_atLeastWord_69 : decode b_T_atLeastWord 69 = .ok (.lload 13, 2) := by decide +kernel
theorem d_T_atLeastWord_71 : decode b_T_atLeastWord 71 = .ok (.lor, 1) := by decide +kernel
theorem d_T_atLeastWord_72 : decode b_T_atLeastWord 72 = .ok (.lstore 4, 2) := by decide +kernel
theorem d_T_atLeastWord_74 : decode b_T_atLeastWord 74 = .ok (.iinc 12 1, 3) := by decide +kernel
theorem d_T_atLeastWord_77 : decode b_T_atLeastWord 77 = .ok (.goto (-62), 3) := by decide +kernel
theorem d_T_atLeastWord_80 : decode b_T_atLeastWord 80 = .ok (.iload_n 1, 1) := by decide +kernel
theorem d_T_atLeastWord_81 : decode b_T_atLeastWord 81 = .ok (.tableswitch 44 0 3 #[31, 35, 38, 41], 31) := by decide +kernel
theorem d_T_atLeastWord_112 : decode b_T_atLeastWord 112 = .ok (.ldc2_w 52, 3) := by decide +kernel
theorem d_T_atLeastWord_115 : decode b_T_atLeastWord 115 = .ok (.lreturn, 1) := by decide +kernel
theorem d_T_atLeastWord_116 : decode b_T_atLeastWord 116 = .ok (.lload 4, 2) := by decide +kernel
theorem d_T_atLeastWord_118 : decode b_T_atLeastWord 118 = .ok (.lreturn, 1) := by decide +kernel
theorem d_T_atLeastWord_119 : decode b_T_atLeastWord 119 = .ok (.lload 6, 2) := by decide +kernel
theorem d_T_atLeastWord_121 : decode b_T_atLeastWord 121 = .ok (.lreturn, 1) := by decide +kernel
theorem d_T_atLeastWord_122 : decode b_T_atLeastWord 122 = .ok (.lload 8, 2) := by decide +kernel
theorem d_T_atLeastWord_124 : decode b_T_atLeastWord 124 = .ok (.lreturn, 1) := by decide +kernel
theorem d_T_atLeastWord_125 : decode b_T_atLeastWord 125 = .ok (.lload 10, 2) := by decide +kernel
theorem d_T_atLeastWord_127 : decode b_T_atLeastWord 127 = .ok (.lreturn, 1) := by decide +kernel
def rm_T_atLeastWord : Room := { frames := 0, cells := 0, slots := 0, locals := 0 }
def f_T_atLeastWord_15 (fu : Nat) : Nat → Nat → Int32 → Int32 → Int32 → Int64 → Int64 → Int64 → Int64 → Int32 → List va_E → Option (Int64 × List va_E)
  | 0, _, _, _, _, _, _, _, _, _, _ => none
  | n + 1, v0, v1, v2, v3, v4, v6, v8, v10, v12, w => (if v2 ≤ v12 then (if v1 = (0 : Int32) then (some ((-1 : Int64), w)) else (if v1 = (1 : Int32) then (some (v4, w)) else (if v1 = (2 : Int32) then (some (v6, w)) else (if v1 = (3 : Int32) then (some (v8, w)) else (some (v10, w)))))) else ((hp_gr w v0 5 0).bind fun q1 => ((hp_gr w v0 5 1).bind fun q2 => ((hp_ri w q2 v12).bind fun x3 => ((hp_ra w q1 x3).bind fun q4 => ((hp_rl w q4 v3).bind fun y5 => (f_T_atLeastWord_15 fu n (v0) (v1) (v2) (v3) ((v4 ||| y5)) ((v6 ||| (v4 &&& y5))) ((v8 ||| (v6 &&& y5))) ((v10 ||| (v8 &&& y5))) ((v12 + (1 : Int32))) w)))))))
def f_T_atLeastWord (fu : Nat) (v0 : Nat) (v1 : Int32) (v2 : Int32) (v3 : Int32) (w : List va_E) : Option (Int64 × List va_E) := (f_T_atLeastWord_15 fu fu (v0) (v1) (v2) (v3) ((0 : Int64)) ((0 : Int64)) ((0 : Int64)) ((0 : Int64)) ((0 : Int32)) w)
section
variable {p : Program} {l : Launch} {e : Env} {s : State} {m : MethodId} {args : Array Value} {below : List Frame} {meth : Method} {c : Code} {D : va_G} {ca : Nat → Nat} {A : Nat → Prop} {ad : Nat → Nat}
set_option maxRecDepth 100000 in
set_option maxHeartbeats 4000000 in
theorem v_T_atLeastWord_15 (K : av_K p s m args meth c D cl8 ca A b_T_atLeastWord 15 R_T WS) (G : av_G NS tabON A s s.heap) (hr : meth.sig.returnType = some .long) (fu : Nat) {r : Int64 × List va_E} : ∀ (n : Nat) (v0 : Nat) (v1 : Int32) (v2 : Int32) (v3 : Int32) (v4 : Int64) (v6 : Int64) (v8 : Int64) (v10 : Int64) (v12 : Int32) (w : List va_E), f_T_atLeastWord_15 fu n v0 v1 v2 v3 v4 v6 v8 v10 v12 w = some r → av_VL p l e rm_T_atLeastWord s m args below meth c D cl8 A ad ca 15 r 15 [some (.ref v0), some (.int v1), some (.int v2), some (.int v3), some (.long v4), none, some (.long v6), none, some (.long v8), none, some (.long v10), none, some (.int v12), none, none] [] w := by
  intro n
  induction n with
  | zero => intro _ _ _ _ _ _ _ _ _ _ h; cases h
  | succ n ih =>
    intro v0 v1 v2 v3 v4 v6 v8 v10 v12 w h
    unfold f_T_atLeastWord_15 at h
    refine av_iload K d_T_atLeastWord_15 rfl ?_
    refine av_iload_n K d_T_atLeastWord_17 rfl rfl ?_
    refine av_icmp_ge (tgt := 80) K d_T_atLeastWord_18 rfl (fun hc => ?_) (fun hc => ?_)
    · rw [if_pos hc] at h
      refine av_iload_n K d_T_atLeastWord_80 rfl rfl ?_
      by_cases hs81_0 : v1 = (0 : Int32)
      · rw [if_pos hs81_0] at h
        refine av_tswI (tgt := 112) K d_T_atLeastWord_81 (by rw [hs81_0]; decide) (by rw [hs81_0]; decide) (by rw [hs81_0]; rfl) rfl ?_
        refine av_ldc2 K (cl_T_52) d_T_atLeastWord_112 ?_
        cases h
        exact av_lreturn K hr d_T_atLeastWord_115 rfl
      · rw [if_neg hs81_0] at h
        by_cases hs81_1 : v1 = (1 : Int32)
        · rw [if_pos hs81_1] at h
          refine av_tswI (tgt := 116) K d_T_atLeastWord_81 (by rw [hs81_1]; decide) (by rw [hs81_1]; decide) (by rw [hs81_1]; rfl) rfl ?_
          refine av_lload K d_T_atLeastWord_116 rfl ?_
          cases h
          exact av_lreturn K hr d_T_atLeastWord_118 rfl
        · rw [if_neg hs81_1] at h
          by_cases hs81_2 : v1 = (2 : Int32)
          · rw [if_pos hs81_2] at h
            refine av_tswI (tgt := 119) K d_T_atLeastWord_81 (by rw [hs81_2]; decide) (by rw [hs81_2]; decide) (by rw [hs81_2]; rfl) rfl ?_
            refine av_lload K d_T_atLeastWord_119 rfl ?_
            cases h
            exact av_lreturn K hr d_T_atLeastWord_121 rfl
          · rw [if_neg hs81_2] at h
            by_cases hs81_3 : v1 = (3 : Int32)
            · rw [if_pos hs81_3] at h
              refine av_tswI (tgt := 122) K d_T_atLeastWord_81 (by rw [hs81_3]; decide) (by rw [hs81_3]; decide) (by rw [hs81_3]; rfl) rfl ?_
              refine av_lload K d_T_atLeastWord_122 rfl ?_
              cases h
              exact av_lreturn K hr d_T_atLeastWord_124 rfl
            · rw [if_neg hs81_3] at h
              refine av_tswO (tgt := 125) K d_T_atLeastWord_81 (tsw_4 hs81_0 hs81_1 hs81_2 hs81_3) rfl ?_
              refine av_lload K d_T_atLeastWord_125 rfl ?_
              cases h
              exact av_lreturn K hr d_T_atLeastWord_127 rfl
    · rw [if_neg hc] at h
      refine av_aload_n K d_T_atLeastWord_21 rfl rfl ?_
      obtain ⟨q1, eq1, h⟩ := hp_bd h
      refine hv_gr K fl_T_11 d_T_atLeastWord_22 eq1 ?_
      refine av_aload_n K d_T_atLeastWord_25 rfl rfl ?_
      obtain ⟨q2, eq2, h⟩ := hp_bd h
      refine hv_gr K fl_T_16 d_T_atLeastWord_26 eq2 ?_
      refine av_iload K d_T_atLeastWord_29 rfl ?_
      obtain ⟨x3, ex3, h⟩ := hp_bd h
      refine hv_ri K d_T_atLeastWord_31 ex3 ?_
      obtain ⟨q4, eq4, h⟩ := hp_bd h
      refine hv_ra K d_T_atLeastWord_32 eq4 ?_
      refine av_iload_n K d_T_atLeastWord_33 rfl rfl ?_
      obtain ⟨y5, ey5, h⟩ := hp_bd h
      refine hv_rl K d_T_atLeastWord_34 ey5 ?_
      refine av_lstore K d_T_atLeastWord_35 (Nat.le_of_ble_eq_true rfl) rfl ?_
      refine av_lload K d_T_atLeastWord_37 rfl ?_
      refine av_lload K d_T_atLeastWord_39 rfl ?_
      refine av_lload K d_T_atLeastWord_41 rfl ?_
      refine av_land K d_T_atLeastWord_43 ?_
      refine av_lor K d_T_atLeastWord_44 ?_
      refine av_lstore K d_T_atLeastWord_45 (Nat.le_of_ble_eq_true rfl) rfl ?_
      refine av_lload K d_T_atLeastWord_47 rfl ?_
      refine av_lload K d_T_atLeastWord_49 rfl ?_
      refine av_lload K d_T_atLeastWord_51 rfl ?_
      refine av_land K d_T_atLeastWord_53 ?_
      refine av_lor K d_T_atLeastWord_54 ?_
      refine av_lstore K d_T_atLeastWord_55 (Nat.le_of_ble_eq_true rfl) rfl ?_
      refine av_lload K d_T_atLeastWord_57 rfl ?_
      refine av_lload K d_T_atLeastWord_59 rfl ?_
      refine av_lload K d_T_atLeastWord_61 rfl ?_
      refine av_land K d_T_atLeastWord_63 ?_
      refine av_lor K d_T_atLeastWord_64 ?_
      refine av_lstore K d_T_atLeastWord_65 (Nat.le_of_ble_eq_true rfl) rfl ?_
      refine av_lload K d_T_atLeastWord_67 rfl ?_
      refine av_lload K d_T_atLeastWord_69 rfl ?_
      refine av_lor K d_T_atLeastWord_71 ?_
      refine av_lstore K d_T_atLeastWord_72 (Nat.le_of_ble_eq_true rfl) rfl ?_
      refine av_iinc (v := (v12 + (1 : Int32))) K d_T_atLeastWord_74 rfl (congrArg (fun z => v12 + z) (show Int32.ofInt 1 = (1 : Int32) by decide)) (Nat.le_of_ble_eq_true rfl) rfl ?_
      refine av_goto (tgt := 15) K d_T_atLeastWord_77 rfl ?_
      refine hv_fg [13] rfl ?_
      exact ih (v0) (v1) (v2) (v3) ((v4 ||| y5)) ((v6 ||| (v4 &&& y5))) ((v8 ||| (v6 &&& y5))) ((v10 ||| (v8 &&& y5))) ((v12 + (1 : Int32))) _ h
set_option maxRecDepth 100000 in
set_option maxHeartbeats 4000000 in
theorem v_T_atLeastWord (K : av_K p s m args meth c D cl8 ca A b_T_atLeastWord 15 R_T WS) (G : av_G NS tabON A s s.heap) (hr : meth.sig.returnType = some .long) (fu : Nat) {r : Int64 × List va_E} (v0 : Nat) (v1 : Int32) (v2 : Int32) (v3 : Int32) (w : List va_E) (h : f_T_atLeastWord fu v0 v1 v2 v3 w = some r) : av_VL p l e rm_T_atLeastWord s m args below meth c D cl8 A ad ca 15 r 0 [some (.ref v0), some (.int v1), some (.int v2), some (.int v3), none, none, none, none, none, none, none, none, none, none, none] [] w := by
  unfold f_T_atLeastWord at h
  refine av_lconst (v := (0 : Int64)) K d_T_atLeastWord_0 (by decide) ?_
  refine av_lstore K d_T_atLeastWord_1 (Nat.le_of_ble_eq_true rfl) rfl ?_
  refine av_lconst (v := (0 : Int64)) K d_T_atLeastWord_3 (by decide) ?_
  refine av_lstore K d_T_atLeastWord_4 (Nat.le_of_ble_eq_true rfl) rfl ?_
  refine av_lconst (v := (0 : Int64)) K d_T_atLeastWord_6 (by decide) ?_
  refine av_lstore K d_T_atLeastWord_7 (Nat.le_of_ble_eq_true rfl) rfl ?_
  refine av_lconst (v := (0 : Int64)) K d_T_atLeastWord_9 (by decide) ?_
  refine av_lstore K d_T_atLeastWord_10 (Nat.le_of_ble_eq_true rfl) rfl ?_
  refine av_iconst (v := (0 : Int32)) K d_T_atLeastWord_12 (by decide) ?_
  refine av_istore K d_T_atLeastWord_13 (Nat.le_of_ble_eq_true rfl) rfl ?_
  exact v_T_atLeastWord_15 K G hr fu fu (v0) (v1) (v2) (v3) ((0 : Int64)) ((0 : Int64)) ((0 : Int64)) ((0 : Int64)) ((0 : Int32)) _ h
end
set_option maxRecDepth 100000 in
theorem c_T_atLeastWord {l : Launch} {D : va_G} {ca : Nat → Nat} {tab : Nat → Int64} {fu : Nat} {v0 : Nat} {v1 : Int32} {v2 : Int32} {v3 : Int32} {w : List va_E} {r : Int64 × List va_E} (h : f_T_atLeastWord fu v0 v1 v2 v3 w = some r) : av_Cl l D cl8 ca NS tabON y_T_atLeastWord w_T_atLeastWord rm_T_atLeastWord [.ref v0, .int v1, .int v2, .int v3] w (fun v u => (v, u) = r) :=
  av_inL (cc := b_T_atLeastWord) (nL := 15) (by decide +kernel) rfl (Nat.le_of_ble_eq_true rfl) (fun p e s m args below meth c A ad K G hr => v_T_atLeastWord K G hr fu v0 v1 v2 v3 w h)

-- FaultTreeDesk$Truth.fillGate(LFaultTreeDesk$Gates;I)V
theorem d_T_fillGate_0 : decode b_T_fillGate 0 = .ok (.aload_n 0, 1) := by decide +kernel
theorem d_T_fillGate_1 : decode b_T_fillGate 1 = .ok (.aload_n 1, 1) := by decide +kernel
theorem d_T_fillGate_2 : decode b_T_fillGate 2 = .ok (.getfield 72, 3) := by decide +kernel
theorem d_T_fillGate_5 : decode b_T_fillGate 5 = .ok (.iload_n 2, 1) := by decide +kernel
theorem d_T_fillGate_6 : decode b_T_fillGate 6 = .ok (.iaload, 1) := by decide +kernel
theorem d_T_fillGate_7 : decode b_T_fillGate 7 = .ok (.invokevirtual 75, 3) := by decide +kernel
theorem d_T_fillGate_10 : decode b_T_fillGate 10 = .ok (.istore_n 3, 1) := by decide +kernel
theorem d_T_fillGate_11 : decode b_T_fillGate 11 = .ok (.aload_n 1, 1) := by decide +kernel
theorem d_T_fillGate_12 : decode b_T_fillGate 12 = .ok (.getfield 78, 3) := by decide +kernel
theorem d_T_fillGate_15 : decode b_T_fillGate 15 = .ok (.iload_n 2, 1) := by decide +kernel
theorem d_T_fillGate_16 : decode b_T_fillGate 16 = .ok (.iaload, 1) := by decide +kernel
theorem d_T_fillGate_17 : decode b_T_fillGate 17 = .ok (.istore 4, 2) := by decide +kernel
theorem d_T_fillGate_19 : decode b_T_fillGate 19 = .ok (.aload_n 0, 1) := by decide +kernel
theorem d_T_fillGate_20 : decode b_T_fillGate 20 = .ok (.getfield 11, 3) := by decide +kernel
theorem d_T_fillGate_23 : decode b_T_fillGate 23 = .ok (.bipush 16, 2) := by decide +kernel
theorem d_T_fillGate_25 : decode b_T_fillGate 25 = .ok (.iload_n 2, 1) := by decide +kernel
theorem d_T_fillGate_26 : decode b_T_fillGate 26 = .ok (.iadd, 1) := by decide +kernel
theorem d_T_fillGate_27 : decode b_T_fillGate 27 = .ok (.aaload, 1) := by decide +kernel
theorem d_T_fillGate_28 : decode b_T_fillGate 28 = .ok (.astore 5, 2) := by decide +kernel
theorem d_T_fillGate_30 : decode b_T_fillGate 30 = .ok (.iconst 0, 1) := by decide +kernel
theorem d_T_fillGate_31 : decode b_T_fillGate 31 = .ok (.istore 6, 2) := by decide +kernel
theorem d_T_fillGate_33 : decode b_T_fillGate 33 = .ok (.iload 6, 2) := by decide +kernel
theorem d_T_fillGate_35 : decode b_T_fillGate 35 = .ok (.aload_n 0, 1) := by decide +kernel
theorem d_T_fillGate_36 : decode b_T_fillGate 36 = .ok (.getfield 24, 3) := by decide +kernel
theorem d_T_fillGate_39 : decode b_T_fillGate 39 = .ok (.if_icmp .ge 97, 3) := by decide +kernel
theorem d_T_fillGate_42 : decode b_T_fillGate 42 = .ok (.iload 4, 2) := by decide +kernel
theorem d_T_fillGate_44 : decode b_T_fillGate 44 = .ok (.iconst 3, 1) := by decide +kernel
theorem d_T_fillGate_45 : decode b_T_fillGate 45 = .ok (.if_icmp .ne 18, 3) := by decide +kernel
theorem d_T_fillGate_48 : decode b_T_fillGate 48 = .ok (.aload 5, 2) := by decide +kernel
theorem d_T_fillGate_50 : decode b_T_fillGate 50 = .ok (.iload 6, 2) := by decide +kernel
theorem d_T_fillGate_52 : decode b_T_fillGate 52 = .ok (.aload_n 0, 1) := by decide +kernel
theorem d_T_fillGate_53 : decode b_T_fillGate 53 = .ok (.iload_n 3, 1) := by decide +kernel
theorem d_T_fillGate_54 : decode b_T_fillGate 54 = .ok (.iload 6, 2) := by decide +kernel
theorem d_T_fillGate_56 : decode b_T_fillGate 56 = .ok (.invokevirtual 81, 3) := by decide +kernel
theorem d_T_fillGate_59 : decode b_T_fillGate 59 = .ok (.lastore, 1) := by decide +kernel
theorem d_T_fillGate_60 : decode b_T_fillGate 60 = .ok (.goto 70, 3) := by decide +kernel
theorem d_T_fillGate_63 : decode b_T_fillGate 63 = .ok (.iload 4, 2) := by decide +kernel
theorem d_T_fillGate_65 : decode b_T_fillGate 65 = .ok (.iconst 4, 1) := by decide +kernel
theorem d_T_fillGate_66 : decode b_T_fillGate 66 = .ok (.if_icmp .ne 23, 3) := by decide +kernel
theorem d_T_fillGate_69 : decode b_T_fillGate 69 = .ok (.aload 5, 2) := by decide +kernel
theorem d_T_fillGate_71 : decode b_T_fillGate 71 = .ok (.iload 6, 2) := by decide +kernel
theorem d_T_fillGate_73 : decode b_T_fillGate 73 = .ok (.aload_n 0, 1) := by decide +kernel
theorem d_T_fillGate_74 : decode b_T_fillGate 74 = .ok (.iconst 1, 1) := by decide +kernel
theorem d_T_fillGate_75 : decode b_T_fillGate 75 = .ok (.iload_n 3, 1) := by decide +kernel
theorem d_T_fillGate_76 : decode b_T_fillGate 76 = .ok (.iload 6, 2) := by decide +kernel
theorem d_T_fillGate_78 : decode b_T_fillGate 78 = .ok (.invokevirtual 85, 3) := by decide +kernel
theorem d_T_fillGate_81 : decode b_T_fillGate 81 = .ok (.ldc2_w 52, 3) := by decide +kernel
theorem d_T_fillGate_84 : decode b_T_fillGate 84 = .ok (.lxor, 1) := by decide +kernel
theorem d_T_fillGate_85 : decode b_T_fillGate 85 = .ok (.lastore, 1) := by decide +kernel
theorem d_T_fillGate_86 : decode b_T_fillGate 86 = .ok (.goto 44, 3) := by decide +kernel
theorem d_T_fillGate_89 : decode b_T_fillGate 89 = .ok (.iload 4, 2) := by decide +kernel
theorem d_T_fillGate_91 : decode b_T_fillGate 91 = .ok (.ifCond .ne 7, 3) := by decide +kernel
theorem d_T_fillGate_94 : decode b_T_fillGate 94 = .ok (.iload_n 3, 1) := by decide +kernel
theorem d_T_fillGate_95 : decode b_T_fillGate 95 = .ok (.goto 19, 3) := by decide +kernel
theorem d_T_fillGate_98 : decode b_T_fillGate 98 = .ok (.iload 4, 2) := by decide +kernel
theorem d_T_fillGate_100 : decode b_T_fillGate 100 = .ok (.iconst 1, 1) := by decide +kernel
theorem d_T_fillGate_101 : decode b_T_fillGate 101 = .ok (.if_icmp .ne 7, 3) := by decide +kernel
theorem d_T_fillGate_104 : decode b_T_fillGate 104 = .ok (.iconst 1, 1) := by decide +kernel
theorem d_T_fillGate_105 : decode b_T_fillGate 105 = .ok (.goto 9, 3) := by decide +kernel
theorem d_T_fillGate_108 : decode b_T_fillGate 108 = .ok (.aload_n 1, 1) := by decide +kernel
theorem d_T_fillGate_109 : decode b_T_fillGate 109 = .ok (.getfield 89, 3) := by decide +kernel
theorem d_T_fillGate_112 : decode b_T_fillGate 112 = .ok (.iload_n 2, 1) := by decide +kernel
theorem d_T_fillGate_113 : decode b_T_fillGate 113 = .ok (.iaload, 1) := by decide +kernel
theorem d_T_fillGate_114 : decode b_T_fillGate 114 = .ok (.istore 7, 2) := by decide +kernel
theorem d_T_fillGate_116 : decode b_T_fillGate 116 = .ok (.aload 5, 2) := by decide +kernel
theorem d_T_fillGate_118 : decode b_T_fillGate 118 = .ok (.iload 6, 2) := by decide +kernel
theorem d_T_fillGate_120 : decode b_T_fillGate 120 = .ok (.aload_n 0, 1) := by decide +kernel
theorem d_T_fillGate_121 : decode b_T_fillGate 121 = .ok (.iload 7, 2) := by decide +kernel
theorem d_T_fillGate_123 : decode b_T_fillGate 123 = .ok (.iload_n 3, 1) := by decide +kernel
theorem d_T_fillGate_124 : decode b_T_fillGate 124 = .ok (.iload 6, 2) := by decide +kernel
theorem d_T_fillGate_126 : decode b_T_fillGate 126 = .ok (.invokevirtual 85, 3) := by decide +kernel
theorem d_T_fillGate_129 : decode b_T_fillGate 129 = .ok (.lastore, 1) := by decide +kernel
theorem d_T_fillGate_130 : decode b_T_fillGate 130 = .ok (.iinc 6 1, 3) := by decide +kernel
theorem d_T_fillGate_133 : decode b_T_fillGate 133 = .ok (.goto (-100), 3) := by decide +kernel
theorem d_T_fillGate_136 : decode b_T_fillGate 136 = .ok (.return_, 1) := by decide +kernel
def rm_T_fillGate : Room := { frames := 1, cells := 0, slots := 0, locals := 34 }
def f_T_fillGate_130 (fu : Nat) (k33 : Nat → Nat → Int32 → Int32 → Int32 → Nat → Int32 → List va_E → Option (List va_E)) (v0 : Nat) (v1 : Nat) (v2 : Int32) (v3 : Int32) (v4 : Int32) (v5 : Nat) (v6 : Int32) (w : List va_E) : Option (List va_E) := (k33 (v0) (v1) (v2) (v3) (v4) (v5) ((v6 + (1 : Int32))) w)
def f_T_fillGate_114 (fu : Nat) (k33 : Nat → Nat → Int32 → Int32 → Int32 → Nat → Int32 → List va_E → Option (List va_E)) (v0 : Nat) (v1 : Nat) (v2 : Int32) (v3 : Int32) (v4 : Int32) (v5 : Nat) (v6 : Int32) (s0 : Int32) (w : List va_E) : Option (List va_E) := ((hp_is w v0 5).bind fun _ => ((f_T_atLeastWord fu v0 s0 v3 v6 w).bind fun r1 => ((hp_wl r1.2 v5 v6 r1.1).bind fun w2 => (f_T_fillGate_130 fu k33 (v0) (v1) (v2) (v3) (v4) (v5) (v6) w2))))
def f_T_fillGate_33 (fu : Nat) : Nat → Nat → Nat → Int32 → Int32 → Int32 → Nat → Int32 → List va_E → Option (List va_E)
  | 0, _, _, _, _, _, _, _, _ => none
  | n + 1, v0, v1, v2, v3, v4, v5, v6, w => ((hp_gi w v0 5 3).bind fun x1 => (if x1 ≤ v6 then (some w) else (if v4 = (3 : Int32) then ((hp_is w v0 5).bind fun _ => ((f_T_oddWord fu v0 v3 v6 w).bind fun r6 => ((hp_wl r6.2 v5 v6 r6.1).bind fun w7 => (f_T_fillGate_130 fu (f_T_fillGate_33 fu n) (v0) (v1) (v2) (v3) (v4) (v5) (v6) w7)))) else (if v4 = (4 : Int32) then ((hp_is w v0 5).bind fun _ => ((f_T_atLeastWord fu v0 (1 : Int32) v3 v6 w).bind fun r4 => ((hp_wl r4.2 v5 v6 (r4.1 ^^^ (-1 : Int64))).bind fun w5 => (f_T_fillGate_130 fu (f_T_fillGate_33 fu n) (v0) (v1) (v2) (v3) (v4) (v5) (v6) w5)))) else (if v4 = 0 then (f_T_fillGate_114 fu (f_T_fillGate_33 fu n) (v0) (v1) (v2) (v3) (v4) (v5) (v6) (v3) w) else (if v4 = (1 : Int32) then (f_T_fillGate_114 fu (f_T_fillGate_33 fu n) (v0) (v1) (v2) (v3) (v4) (v5) (v6) ((1 : Int32)) w) else ((hp_gr w v1 2 1).bind fun q2 => ((hp_ri w q2 v2).bind fun x3 => (f_T_fillGate_114 fu (f_T_fillGate_33 fu n) (v0) (v1) (v2) (v3) (v4) (v5) (v6) (x3) w)))))))))
def f_T_fillGate (fu : Nat) (v0 : Nat) (v1 : Nat) (v2 : Int32) (w : List va_E) : Option (List va_E) := ((hp_gr w v1 2 2).bind fun q1 => ((hp_ri w q1 v2).bind fun x2 => ((hp_is w v0 5).bind fun _ => ((f_T_listInputs fu v0 x2 w).bind fun r3 => ((hp_gr r3.2 v1 2 0).bind fun q4 => ((hp_ri r3.2 q4 v2).bind fun x5 => ((hp_gr r3.2 v0 5 0).bind fun q6 => ((hp_ra r3.2 q6 ((16 : Int32) + v2)).bind fun q7 => (f_T_fillGate_33 fu fu (v0) (v1) (v2) (r3.1) (x5) (q7) ((0 : Int32)) r3.2)))))))))
section
variable {p : Program} {l : Launch} {e : Env} {s : State} {m : MethodId} {args : Array Value} {below : List Frame} {meth : Method} {c : Code} {D : va_G} {ca : Nat → Nat} {A : Nat → Prop} {ad : Nat → Nat}
set_option maxRecDepth 100000 in
set_option maxHeartbeats 4000000 in
theorem v_T_fillGate_130 (K : av_K p s m args meth c D cl8 ca A b_T_fillGate 8 R_T WS) (G : av_G NS tabON A s s.heap) (hr : meth.sig.returnType = none) (fu : Nat) {r : List va_E} (k33 : Nat → Nat → Int32 → Int32 → Int32 → Nat → Int32 → List va_E → Option (List va_E)) (hk33 : ∀ (v0 : Nat) (v1 : Nat) (v2 : Int32) (v3 : Int32) (v4 : Int32) (v5 : Nat) (v6 : Int32) (w : List va_E), k33 v0 v1 v2 v3 v4 v5 v6 w = some r → av_VV p l e rm_T_fillGate s m args below meth c D cl8 A ad ca 8 r 33 [some (.ref v0), some (.ref v1), some (.int v2), some (.int v3), some (.int v4), some (.ref v5), some (.int v6), none] [] w) (v0 : Nat) (v1 : Nat) (v2 : Int32) (v3 : Int32) (v4 : Int32) (v5 : Nat) (v6 : Int32) (w : List va_E) (h : f_T_fillGate_130 fu k33 v0 v1 v2 v3 v4 v5 v6 w = some r) : av_VV p l e rm_T_fillGate s m args below meth c D cl8 A ad ca 8 r 130 [some (.ref v0), some (.ref v1), some (.int v2), some (.int v3), some (.int v4), some (.ref v5), some (.int v6), none] [] w := by
  unfold f_T_fillGate_130 at h
  refine av_iinc (v := (v6 + (1 : Int32))) K d_T_fillGate_130 rfl (congrArg (fun z => v6 + z) (show Int32.ofInt 1 = (1 : Int32) by decide)) (Nat.le_of_ble_eq_true rfl) rfl ?_
  refine av_goto (tgt := 33) K d_T_fillGate_133 rfl ?_
  exact hk33 (v0) (v1) (v2) (v3) (v4) (v5) ((v6 + (1 : Int32))) _ h
set_option maxRecDepth 100000 in
set_option maxHeartbeats 4000000 in
theorem v_T_fillGate_114 (K : av_K p s m args meth c D cl8 ca A b_T_fillGate 8 R_T WS) (G : av_G NS tabON A s s.heap) (hr : meth.sig.returnType = none) (fu : Nat) {r : List va_E} (k33 : Nat → Nat → Int32 → Int32 → Int32 → Nat → Int32 → List va_E → Option (List va_E)) (hk33 : ∀ (v0 : Nat) (v1 : Nat) (v2 : Int32) (v3 : Int32) (v4 : Int32) (v5 : Nat) (v6 : Int32) (w : List va_E), k33 v0 v1 v2 v3 v4 v5 v6 w = some r → av_VV p l e rm_T_fillGate s m args below meth c D cl8 A ad ca 8 r 33 [some (.ref v0), some (.ref v1), some (.int v2), some (.int v3), some (.int v4), some (.ref v5), some (.int v6), none] [] w) (v0 : Nat) (v1 : Nat) (v2 : Int32) (v3 : Int32) (v4 : Int32) (v5 : Nat) (v6 : Int32) (s0 : Int32) (w : List va_E) (h : f_T_fillGate_114 fu k33 v0 v1 v2 v3 v4 v5 v6 s0 w = some r) : av_VV p l e rm_T_fillGate s m args below meth c D cl8 A ad ca 8 r 114 [some (.ref v0), some (.ref v1), some (.int v2), some (.int v3), some (.int v4), some (.ref v5), some (.int v6), none] [.int s0] w := by
  unfold f_T_fillGate_114 at h
  refine av_istore K d_T_fillGate_114 (Nat.le_of_ble_eq_true rfl) rfl ?_
  refine av_aload K d_T_fillGate_116 rfl ?_
  refine av_iload K d_T_fillGate_118 rfl ?_
  refine av_aload_n K d_T_fillGate_120 rfl rfl ?_
  refine av_iload K d_T_fillGate_121 rfl ?_
  refine av_iload_n K d_T_fillGate_123 rfl rfl ?_
  refine av_iload K d_T_fillGate_124 rfl ?_
  obtain ⟨_, eo126, h⟩ := hp_bd h
  obtain ⟨r1, er1, h⟩ := hp_bd h
  obtain ⟨fs126, ho126⟩ := hp_is_of eo126
  refine av_cVl K G (c_T_atLeastWord (tab := tabON) er1) (cwV 3 K.2.2.2.2.1 (gV ml_T_85 im_T_atLeastWord se_T_atLeastWord in_T co_T_atLeastWord) rfl rfl rfl cd_T_atLeastWord ⟨Nat.le_of_ble_eq_true rfl, Nat.le_of_ble_eq_true rfl⟩) rfl ho126 rfl rfl (Nat.le_of_ble_eq_true rfl) d_T_fillGate_126 ⟨Nat.zero_le _, Nat.zero_le _⟩ (fun a9 u9 h9 => ?_)
  obtain ⟨rfl, rfl⟩ : a9 = r1.1 ∧ u9 = r1.2 := ⟨congrArg Prod.fst h9, congrArg Prod.snd h9⟩
  obtain ⟨w2, ew2, h⟩ := hp_bd h
  refine hv_wl K d_T_fillGate_129 ew2 ?_
  refine hv_fg [7] rfl ?_
  exact v_T_fillGate_130 K G hr fu k33 hk33 (v0) (v1) (v2) (v3) (v4) (v5) (v6) _ h
set_option maxRecDepth 100000 in
set_option maxHeartbeats 4000000 in
theorem v_T_fillGate_33 (K : av_K p s m args meth c D cl8 ca A b_T_fillGate 8 R_T WS) (G : av_G NS tabON A s s.heap) (hr : meth.sig.returnType = none) (fu : Nat) {r : List va_E} : ∀ (n : Nat) (v0 : Nat) (v1 : Nat) (v2 : Int32) (v3 : Int32) (v4 : Int32) (v5 : Nat) (v6 : Int32) (w : List va_E), f_T_fillGate_33 fu n v0 v1 v2 v3 v4 v5 v6 w = some r → av_VV p l e rm_T_fillGate s m args below meth c D cl8 A ad ca 8 r 33 [some (.ref v0), some (.ref v1), some (.int v2), some (.int v3), some (.int v4), some (.ref v5), some (.int v6), none] [] w := by
  intro n
  induction n with
  | zero => intro _ _ _ _ _ _ _ _ h; cases h
  | succ n ih =>
    intro v0 v1 v2 v3 v4 v5 v6 w h
    unfold f_T_fillGate_33 at h
    refine av_iload K d_T_fillGate_33 rfl ?_
    refine av_aload_n K d_T_fillGate_35 rfl rfl ?_
    obtain ⟨x1, ex1, h⟩ := hp_bd h
    refine hv_gi K fl_T_24 d_T_fillGate_36 ex1 ?_
    refine av_icmp_ge (tgt := 136) K d_T_fillGate_39 rfl (fun hc => ?_) (fun hc => ?_)
    · rw [if_pos hc] at h
      cases h
      exact av_return K hr d_T_fillGate_136 rfl
    · rw [if_neg hc] at h
      refine av_iload K d_T_fillGate_42 rfl ?_
      refine av_iconst (v := (3 : Int32)) K d_T_fillGate_44 (by decide) ?_
      refine av_icmp_ne (tgt := 63) K d_T_fillGate_45 rfl (fun hc => ?_) (fun hc => ?_)
      · rw [if_neg hc] at h
        refine av_iload K d_T_fillGate_63 rfl ?_
        refine av_iconst (v := (4 : Int32)) K d_T_fillGate_65 (by decide) ?_
        refine av_icmp_ne (tgt := 89) K d_T_fillGate_66 rfl (fun hc => ?_) (fun hc => ?_)
        · rw [if_neg hc] at h
          refine av_iload K d_T_fillGate_89 rfl ?_
          refine av_if_ne (tgt := 98) K d_T_fillGate_91 rfl (fun hc => ?_) (fun hc => ?_)
          · rw [if_neg hc] at h
            refine av_iload K d_T_fillGate_98 rfl ?_
            refine av_iconst (v := (1 : Int32)) K d_T_fillGate_100 (by decide) ?_
            refine av_icmp_ne (tgt := 108) K d_T_fillGate_101 rfl (fun hc => ?_) (fun hc => ?_)
            · rw [if_neg hc] at h
              refine av_aload_n K d_T_fillGate_108 rfl rfl ?_
              obtain ⟨q2, eq2, h⟩ := hp_bd h
              refine hv_grN K G fl_T_89 d_T_fillGate_109 eq2 ?_
              refine av_iload_n K d_T_fillGate_112 rfl rfl ?_
              obtain ⟨x3, ex3, h⟩ := hp_bd h
              refine hv_ri K d_T_fillGate_113 ex3 ?_
              exact v_T_fillGate_114 K G hr fu (f_T_fillGate_33 fu n) ih (v0) (v1) (v2) (v3) (v4) (v5) (v6) (x3) _ h
            · rw [if_pos hc] at h
              refine av_iconst (v := (1 : Int32)) K d_T_fillGate_104 (by decide) ?_
              refine av_goto (tgt := 114) K d_T_fillGate_105 rfl ?_
              exact v_T_fillGate_114 K G hr fu (f_T_fillGate_33 fu n) ih (v0) (v1) (v2) (v3) (v4) (v5) (v6) ((1 : Int32)) _ h
          · rw [if_pos hc] at h
            refine av_iload_n K d_T_fillGate_94 rfl rfl ?_
            refine av_goto (tgt := 114) K d_T_fillGate_95 rfl ?_
            exact v_T_fillGate_114 K G hr fu (f_T_fillGate_33 fu n) ih (v0) (v1) (v2) (v3) (v4) (v5) (v6) (v3) _ h
        · rw [if_pos hc] at h
          refine av_aload K d_T_fillGate_69 rfl ?_
          refine av_iload K d_T_fillGate_71 rfl ?_
          refine av_aload_n K d_T_fillGate_73 rfl rfl ?_
          refine av_iconst (v := (1 : Int32)) K d_T_fillGate_74 (by decide) ?_
          refine av_iload_n K d_T_fillGate_75 rfl rfl ?_
          refine av_iload K d_T_fillGate_76 rfl ?_
          obtain ⟨_, eo78, h⟩ := hp_bd h
          obtain ⟨r4, er4, h⟩ := hp_bd h
          obtain ⟨fs78, ho78⟩ := hp_is_of eo78
          refine av_cVl K G (c_T_atLeastWord (tab := tabON) er4) (cwV 3 K.2.2.2.2.1 (gV ml_T_85 im_T_atLeastWord se_T_atLeastWord in_T co_T_atLeastWord) rfl rfl rfl cd_T_atLeastWord ⟨Nat.le_of_ble_eq_true rfl, Nat.le_of_ble_eq_true rfl⟩) rfl ho78 rfl rfl (Nat.le_of_ble_eq_true rfl) d_T_fillGate_78 ⟨Nat.zero_le _, Nat.zero_le _⟩ (fun a9 u9 h9 => ?_)
          obtain ⟨rfl, rfl⟩ : a9 = r4.1 ∧ u9 = r4.2 := ⟨congrArg Prod.fst h9, congrArg Prod.snd h9⟩
          refine av_ldc2 K (cl_T_52) d_T_fillGate_81 ?_
          refine av_lxor K d_T_fillGate_84 ?_
          obtain ⟨w5, ew5, h⟩ := hp_bd h
          refine hv_wl K d_T_fillGate_85 ew5 ?_
          refine av_goto (tgt := 130) K d_T_fillGate_86 rfl ?_
          exact v_T_fillGate_130 K G hr fu (f_T_fillGate_33 fu n) ih (v0) (v1) (v2) (v3) (v4) (v5) (v6) _ h
      · rw [if_pos hc] at h
        refine av_aload K d_T_fillGate_48 rfl ?_
        refine av_iload K d_T_fillGate_50 rfl ?_
        refine av_aload_n K d_T_fillGate_52 rfl rfl ?_
        refine av_iload_n K d_T_fillGate_53 rfl rfl ?_
        refine av_iload K d_T_fillGate_54 rfl ?_
        obtain ⟨_, eo56, h⟩ := hp_bd h
        obtain ⟨r6, er6, h⟩ := hp_bd h
        obtain ⟨fs56, ho56⟩ := hp_is_of eo56
        refine av_cVl K G (c_T_oddWord (tab := tabON) er6) (cwV 2 K.2.2.2.2.1 (gV ml_T_81 im_T_oddWord se_T_oddWord in_T co_T_oddWord) rfl rfl rfl cd_T_oddWord ⟨Nat.le_of_ble_eq_true rfl, Nat.le_of_ble_eq_true rfl⟩) rfl ho56 rfl rfl (Nat.le_of_ble_eq_true rfl) d_T_fillGate_56 ⟨Nat.zero_le _, Nat.zero_le _⟩ (fun a9 u9 h9 => ?_)
        obtain ⟨rfl, rfl⟩ : a9 = r6.1 ∧ u9 = r6.2 := ⟨congrArg Prod.fst h9, congrArg Prod.snd h9⟩
        obtain ⟨w7, ew7, h⟩ := hp_bd h
        refine hv_wl K d_T_fillGate_59 ew7 ?_
        refine av_goto (tgt := 130) K d_T_fillGate_60 rfl ?_
        exact v_T_fillGate_130 K G hr fu (f_T_fillGate_33 fu n) ih (v0) (v1) (v2) (v3) (v4) (v5) (v6) _ h
set_option maxRecDepth 100000 in
set_option maxHeartbeats 4000000 in
theorem v_T_fillGate (K : av_K p s m args meth c D cl8 ca A b_T_fillGate 8 R_T WS) (G : av_G NS tabON A s s.heap) (hr : meth.sig.returnType = none) (fu : Nat) {r : List va_E} (v0 : Nat) (v1 : Nat) (v2 : Int32) (w : List va_E) (h : f_T_fillGate fu v0 v1 v2 w = some r) : av_VV p l e rm_T_fillGate s m args below meth c D cl8 A ad ca 8 r 0 [some (.ref v0), some (.ref v1), some (.int v2), none, none, none, none, none] [] w := by
  unfold f_T_fillGate at h
  refine av_aload_n K d_T_fillGate_0 rfl rfl ?_
  refine av_aload_n K d_T_fillGate_1 rfl rfl ?_
  obtain ⟨q1, eq1, h⟩ := hp_bd h
  refine hv_grN K G fl_T_72 d_T_fillGate_2 eq1 ?_
  refine av_iload_n K d_T_fillGate_5 rfl rfl ?_
  obtain ⟨x2, ex2, h⟩ := hp_bd h
  refine hv_ri K d_T_fillGate_6 ex2 ?_
  obtain ⟨_, eo7, h⟩ := hp_bd h
  obtain ⟨r3, er3, h⟩ := hp_bd h
  obtain ⟨fs7, ho7⟩ := hp_is_of eo7
  refine av_cVi K G (c_T_listInputs (tab := tabON) er3) (cwV 1 K.2.2.2.2.1 (gV ml_T_75 im_T_listInputs se_T_listInputs in_T co_T_listInputs) rfl rfl rfl cd_T_listInputs ⟨Nat.le_of_ble_eq_true rfl, Nat.le_of_ble_eq_true rfl⟩) rfl ho7 rfl rfl (Nat.le_of_ble_eq_true rfl) d_T_fillGate_7 ⟨Nat.zero_le _, Nat.zero_le _⟩ (fun a9 u9 h9 => ?_)
  obtain ⟨rfl, rfl⟩ : a9 = r3.1 ∧ u9 = r3.2 := ⟨congrArg Prod.fst h9, congrArg Prod.snd h9⟩
  refine av_istore_n K d_T_fillGate_10 rfl (Nat.le_of_ble_eq_true rfl) rfl ?_
  refine av_aload_n K d_T_fillGate_11 rfl rfl ?_
  obtain ⟨q4, eq4, h⟩ := hp_bd h
  refine hv_grN K G fl_T_78 d_T_fillGate_12 eq4 ?_
  refine av_iload_n K d_T_fillGate_15 rfl rfl ?_
  obtain ⟨x5, ex5, h⟩ := hp_bd h
  refine hv_ri K d_T_fillGate_16 ex5 ?_
  refine av_istore K d_T_fillGate_17 (Nat.le_of_ble_eq_true rfl) rfl ?_
  refine av_aload_n K d_T_fillGate_19 rfl rfl ?_
  obtain ⟨q6, eq6, h⟩ := hp_bd h
  refine hv_gr K fl_T_11 d_T_fillGate_20 eq6 ?_
  refine av_bipush (v := (16 : Int32)) K d_T_fillGate_23 (by decide) ?_
  refine av_iload_n K d_T_fillGate_25 rfl rfl ?_
  refine av_iadd K d_T_fillGate_26 ?_
  obtain ⟨q7, eq7, h⟩ := hp_bd h
  refine hv_ra K d_T_fillGate_27 eq7 ?_
  refine av_astore K d_T_fillGate_28 (Nat.le_of_ble_eq_true rfl) rfl ?_
  refine av_iconst (v := (0 : Int32)) K d_T_fillGate_30 (by decide) ?_
  refine av_istore K d_T_fillGate_31 (Nat.le_of_ble_eq_true rfl) rfl ?_
  exact v_T_fillGate_33 K G hr fu fu (v0) (v1) (v2) (r3.1) (x5) (q7) ((0 : Int32)) _ h
end
set_option maxRecDepth 100000 in
theorem c_T_fillGate {l : Launch} {D : va_G} {ca : Nat → Nat} {tab : Nat → Int64} {fu : Nat} {v0 : Nat} {v1 : Nat} {v2 : Int32} {w : List va_E} {r : List va_E} (h : f_T_fillGate fu v0 v1 v2 w = some r) : av_Cv l D cl8 ca NS tabON y_T_fillGate w_T_fillGate rm_T_fillGate [.ref v0, .ref v1, .int v2] w (fun u => u = r) :=
  av_inV (cc := b_T_fillGate) (nL := 8) (by decide +kernel) rfl (Nat.le_of_ble_eq_true rfl) (fun p e s m args below meth c A ad K G hr => v_T_fillGate K G hr fu v0 v1 v2 w h)

-- FaultTreeDesk$Truth.fillGates(LFaultTreeDesk$Gates;)V
theorem d_T_fillGates_0 : decode b_T_fillGates 0 = .ok (.aload_n 1, 1) := by decide +kernel
theorem d_T_fillGates_1 : decode b_T_fillGates 1 = .ok (.aload_n 0, 1) := by decide +kernel
theorem d_T_fillGates_2 : decode b_T_fillGates 2 = .ok (.getfield 27, 3) := by decide +kernel
theorem d_T_fillGates_5 : decode b_T_fillGates 5 = .ok (.invokevirtual 58, 3) := by decide +kernel
theorem d_T_fillGates_8 : decode b_T_fillGates 8 = .ok (.bipush 16, 2) := by decide +kernel
theorem d_T_fillGates_10 : decode b_T_fillGates 10 = .ok (.ishr, 1) := by decide +kernel
theorem d_T_fillGates_11 : decode b_T_fillGates 11 = .ok (.istore_n 2, 1) := by decide +kernel
theorem d_T_fillGates_12 : decode b_T_fillGates 12 = .ok (.iconst 0, 1) := by decide +kernel
theorem d_T_fillGates_13 : decode b_T_fillGates 13 = .ok (.istore_n 3, 1) := by decide +kernel
theorem d_T_fillGates_14 : decode b_T_fillGates 14 = .ok (.iload_n 3, 1) := by decide +kernel
theorem d_T_fillGates_15 : decode b_T_fillGates 15 = .ok (.bipush 12, 2) := by decide +kernel
theorem d_T_fillGates_17 : decode b_T_fillGates 17 = .ok (.if_icmp .ge 83, 3) := by decide +kernel
theorem d_T_fillGates_20 : decode b_T_fillGates 20 = .ok (.iload_n 2, 1) := by decide +kernel
theorem d_T_fillGates_21 : decode b_T_fillGates 21 = .ok (.ifCond .eq 79, 3) := by decide +kernel
theorem d_T_fillGates_24 : decode b_T_fillGates 24 = .ok (.iconst 0, 1) := by decide +kernel
theorem d_T_fillGates_25 : decode b_T_fillGates 25 = .ok (.istore 4, 2) := by decide +kernel
theorem d_T_fillGates_27 : decode b_T_fillGates 27 = .ok (.iload 4, 2) := by decide +kernel
theorem d_T_fillGates_29 : decode b_T_fillGates 29 = .ok (.aload_n 1, 1) := by decide +kernel
theorem d_T_fillGates_30 : decode b_T_fillGates 30 = .ok (.getfield 64, 3) := by decide +kernel
theorem d_T_fillGates_33 : decode b_T_fillGates 33 = .ok (.if_icmp .ge 61, 3) := by decide +kernel
theorem d_T_fillGates_36 : decode b_T_fillGates 36 = .ok (.aload_n 1, 1) := by decide +kernel
theorem d_T_fillGates_37 : decode b_T_fillGates 37 = .ok (.getfield 65, 3) := by decide +kernel
theorem d_T_fillGates_40 : decode b_T_fillGates 40 = .ok (.iload 4, 2) := by decide +kernel
theorem d_T_fillGates_42 : decode b_T_fillGates 42 = .ok (.iaload, 1) := by decide +kernel
theorem d_T_fillGates_43 : decode b_T_fillGates 43 = .ok (.bipush 16, 2) := by decide +kernel
theorem d_T_fillGates_45 : decode b_T_fillGates 45 = .ok (.ishr, 1) := by decide +kernel
theorem d_T_fillGates_46 : decode b_T_fillGates 46 = .ok (.iload_n 2, 1) := by decide +kernel
theorem d_T_fillGates_47 : decode b_T_fillGates 47 = .ok (.iand, 1) := by decide +kernel
theorem d_T_fillGates_48 : decode b_T_fillGates 48 = .ok (.ifCond .ne 7, 3) := by decide +kernel
theorem d_T_fillGates_51 : decode b_T_fillGates 51 = .ok (.iconst 1, 1) := by decide +kernel
theorem d_T_fillGates_52 : decode b_T_fillGates 52 = .ok (.goto 4, 3) := by decide +kernel
theorem d_T_fillGates_55 : decode b_T_fillGates 55 = .ok (.iconst 0, 1) := by decide +kernel
theorem d_T_fillGates_56 : decode b_T_fillGates 56 = .ok (.istore 5, 2) := by decide +kernel
theorem d_T_fillGates_58 : decode b_T_fillGates 58 = .ok (.iload_n 2, 1) := by decide +kernel
theorem d_T_fillGates_59 : decode b_T_fillGates 59 = .ok (.iload 4, 2) := by decide +kernel
theorem d_T_fillGates_61 : decode b_T_fillGates 61 = .ok (.ishr, 1) := by decide +kernel
theorem d_T_fillGates_62 : decode b_T_fillGates 62 = .ok (.iconst 1, 1) := by decide +kernel
theorem d_T_fillGates_63 : decode b_T_fillGates 63 = .ok (.iand, 1) := by decide +kernel
theorem d_T_fillGates_64 : decode b_T_fillGates 64 = .ok (.ifCond .eq 24, 3) := by decide +kernel
theorem d_T_fillGates_67 : decode b_T_fillGates 67 = .ok (.iload 5, 2) := by decide +kernel
theorem d_T_fillGates_69 : decode b_T_fillGates 69 = .ok (.ifCond .eq 19, 3) := by decide +kernel
theorem d_T_fillGates_72 : decode b_T_fillGates 72 = .ok (.aload_n 0, 1) := by decide +kernel
theorem d_T_fillGates_73 : decode b_T_fillGates 73 = .ok (.aload_n 1, 1) := by decide +kernel
theorem d_T_fillGates_74 : decode b_T_fillGates 74 = .ok (.iload 4, 2) := by decide +kernel
theorem d_T_fillGates_76 : decode b_T_fillGates 76 = .ok (.invokevirtual 68, 3) := by decide +kernel
theorem d_T_fillGates_79 : decode b_T_fillGates 79 = .ok (.iload_n 2, 1) := by decide +kernel
theorem d_T_fillGates_80 : decode b_T_fillGates 80 = .ok (.iconst 1, 1) := by decide +kernel
theorem d_T_fillGates_81 : decode b_T_fillGates 81 = .ok (.iload 4, 2) := by decide +kernel
theorem d_T_fillGates_83 : decode b_T_fillGates 83 = .ok (.ishl, 1) := by decide +kernel
theorem d_T_fillGates_84 : decode b_T_fillGates 84 = .ok (.iconst (-1), 1) := by decide +kernel
theorem d_T_fillGates_85 : decode b_T_fillGates 85 = .ok (.ixor, 1) := by decide +kernel
theorem d_T_fillGates_86 : decode b_T_fillGates 86 = .ok (.iand, 1) := by decide +kernel
theorem d_T_fillGates_87 : decode b_T_fillGates 87 = .ok (.istore_n 2, 1) := by decide +kernel
theorem d_T_fillGates_88 : decode b_T_fillGates 88 = .ok (.iinc 4 1, 3) := by decide +kernel
theorem d_T_fillGates_91 : decode b_T_fillGates 91 = .ok (.goto (-64), 3) := by decide +kernel
theorem d_T_fillGates_94 : decode b_T_fillGates 94 = .ok (.iinc 3 1, 3) := by decide +kernel
theorem d_T_fillGates_97 : decode b_T_fillGates 97 = .ok (.goto (-83), 3) := by decide +kernel
theorem d_T_fillGates_100 : decode b_T_fillGates 100 = .ok (.return_, 1) := by decide +kernel
def rm_T_fillGates : Room := { frames := 2, cells := 0, slots := 0, locals := 61 }
def f_T_fillGates_88 (fu : Nat) (k14 : Nat → Nat → Int32 → Int32 → List va_E → Option (List va_E)) (k27 : Nat → Nat → Int32 → Int32 → Int32 → List va_E → Option (List va_E)) (v0 : Nat) (v1 : Nat) (v2 : Int32) (v3 : Int32) (v4 : Int32) (w : List va_E) : Option (List va_E) := (k27 (v0) (v1) (v2) (v3) ((v4 + (1 : Int32))) w)
def f_T_fillGates_56 (fu : Nat) (k14 : Nat → Nat → Int32 → Int32 → List va_E → Option (List va_E)) (k27 : Nat → Nat → Int32 → Int32 → Int32 → List va_E → Option (List va_E)) (v0 : Nat) (v1 : Nat) (v2 : Int32) (v3 : Int32) (v4 : Int32) (s0 : Int32) (w : List va_E) : Option (List va_E) := (if ((v2 >>> (v4 &&& 31)) &&& (1 : Int32)) = 0 then (f_T_fillGates_88 fu k14 k27 (v0) (v1) (v2) (v3) (v4) w) else (if s0 = 0 then (f_T_fillGates_88 fu k14 k27 (v0) (v1) (v2) (v3) (v4) w) else ((hp_is w v0 5).bind fun _ => ((f_T_fillGate fu v0 v1 v4 w).bind fun r1 => (f_T_fillGates_88 fu k14 k27 (v0) (v1) ((v2 &&& (((1 : Int32) <<< (v4 &&& 31)) ^^^ (-1 : Int32)))) (v3) (v4) r1)))))
def f_T_fillGates_27 (fu : Nat) (k14 : Nat → Nat → Int32 → Int32 → List va_E → Option (List va_E)) : Nat → Nat → Nat → Int32 → Int32 → Int32 → List va_E → Option (List va_E)
  | 0, _, _, _, _, _, _ => none
  | n + 1, v0, v1, v2, v3, v4, w => ((hp_gi w v1 2 4).bind fun x1 => (if x1 ≤ v4 then (k14 (v0) (v1) (v2) ((v3 + (1 : Int32))) w) else ((hp_gr w v1 2 3).bind fun q2 => ((hp_ri w q2 v4).bind fun x3 => (if ((x3 >>> ((16 : Int32) &&& 31)) &&& v2) = 0 then (f_T_fillGates_56 fu k14 (f_T_fillGates_27 fu k14 n) (v0) (v1) (v2) (v3) (v4) ((1 : Int32)) w) else (f_T_fillGates_56 fu k14 (f_T_fillGates_27 fu k14 n) (v0) (v1) (v2) (v3) (v4) ((0 : Int32)) w))))))
def f_T_fillGates_100 (fu : Nat) (w : List va_E) : Option (List va_E) := (some w)
def f_T_fillGates_14 (fu : Nat) : Nat → Nat → Nat → Int32 → Int32 → List va_E → Option (List va_E)
  | 0, _, _, _, _, _ => none
  | n + 1, v0, v1, v2, v3, w => (if (12 : Int32) ≤ v3 then (f_T_fillGates_100 fu w) else (if v2 = 0 then (f_T_fillGates_100 fu w) else (f_T_fillGates_27 fu (f_T_fillGates_14 fu n) fu (v0) (v1) (v2) (v3) ((0 : Int32)) w)))
def f_T_fillGates (fu : Nat) (v0 : Nat) (v1 : Nat) (w : List va_E) : Option (List va_E) := ((hp_gi w v0 5 4).bind fun x1 => ((hp_is w v1 2).bind fun _ => ((f_G_withBelow fu v1 x1 w).bind fun r2 => (f_T_fillGates_14 fu fu (v0) (v1) ((r2.1 >>> ((16 : Int32) &&& 31))) ((0 : Int32)) r2.2))))
section
variable {p : Program} {l : Launch} {e : Env} {s : State} {m : MethodId} {args : Array Value} {below : List Frame} {meth : Method} {c : Code} {D : va_G} {ca : Nat → Nat} {A : Nat → Prop} {ad : Nat → Nat}
set_option maxRecDepth 100000 in
set_option maxHeartbeats 4000000 in
theorem v_T_fillGates_88 (K : av_K p s m args meth c D cl8 ca A b_T_fillGates 6 R_T WS) (G : av_G NS tabON A s s.heap) (hr : meth.sig.returnType = none) (fu : Nat) {r : List va_E} (k14 : Nat → Nat → Int32 → Int32 → List va_E → Option (List va_E)) (k27 : Nat → Nat → Int32 → Int32 → Int32 → List va_E → Option (List va_E)) (hk14 : ∀ (v0 : Nat) (v1 : Nat) (v2 : Int32) (v3 : Int32) (w : List va_E), k14 v0 v1 v2 v3 w = some r → av_VV p l e rm_T_fillGates s m args below meth c D cl8 A ad ca 6 r 14 [some (.ref v0), some (.ref v1), some (.int v2), some (.int v3), none, none] [] w) (hk27 : ∀ (v0 : Nat) (v1 : Nat) (v2 : Int32) (v3 : Int32) (v4 : Int32) (w : List va_E), k27 v0 v1 v2 v3 v4 w = some r → av_VV p l e rm_T_fillGates s m args below meth c D cl8 A ad ca 6 r 27 [some (.ref v0), some (.ref v1), some (.int v2), some (.int v3), some (.int v4), none] [] w) (v0 : Nat) (v1 : Nat) (v2 : Int32) (v3 : Int32) (v4 : Int32) (w : List va_E) (h : f_T_fillGates_88 fu k14 k27 v0 v1 v2 v3 v4 w = some r) : av_VV p l e rm_T_fillGates s m args below meth c D cl8 A ad ca 6 r 88 [some (.ref v0), some (.ref v1), some (.int v2), some (.int v3), some (.int v4), none] [] w := by
  unfold f_T_fillGates_88 at h
  refine av_iinc (v := (v4 + (1 : Int32))) K d_T_fillGates_88 rfl (congrArg (fun z => v4 + z) (show Int32.ofInt 1 = (1 : Int32) by decide)) (Nat.le_of_ble_eq_true rfl) rfl ?_
  refine av_goto (tgt := 27) K d_T_fillGates_91 rfl ?_
  exact hk27 (v0) (v1) (v2) (v3) ((v4 + (1 : Int32))) _ h
set_option maxRecDepth 100000 in
set_option maxHeartbeats 4000000 in
theorem v_T_fillGates_56 (K : av_K p s m args meth c D cl8 ca A b_T_fillGates 6 R_T WS) (G : av_G NS tabON A s s.heap) (hr : meth.sig.returnType = none) (fu : Nat) {r : List va_E} (k14 : Nat → Nat → Int32 → Int32 → List va_E → Option (List va_E)) (k27 : Nat → Nat → Int32 → Int32 → Int32 → List va_E → Option (List va_E)) (hk14 : ∀ (v0 : Nat) (v1 : Nat) (v2 : Int32) (v3 : Int32) (w : List va_E), k14 v0 v1 v2 v3 w = some r → av_VV p l e rm_T_fillGates s m args below meth c D cl8 A ad ca 6 r 14 [some (.ref v0), some (.ref v1), some (.int v2), some (.int v3), none, none] [] w) (hk27 : ∀ (v0 : Nat) (v1 : Nat) (v2 : Int32) (v3 : Int32) (v4 : Int32) (w : List va_E), k27 v0 v1 v2 v3 v4 w = some r → av_VV p l e rm_T_fillGates s m args below meth c D cl8 A ad ca 6 r 27 [some (.ref v0), some (.ref v1), some (.int v2), some (.int v3), some (.int v4), none] [] w) (v0 : Nat) (v1 : Nat) (v2 : Int32) (v3 : Int32) (v4 : Int32) (s0 : Int32) (w : List va_E) (h : f_T_fillGates_56 fu k14 k27 v0 v1 v2 v3 v4 s0 w = some r) : av_VV p l e rm_T_fillGates s m args below meth c D cl8 A ad ca 6 r 56 [some (.ref v0), some (.ref v1), some (.int v2), some (.int v3), some (.int v4), none] [.int s0] w := by
  unfold f_T_fillGates_56 at h
  refine av_istore K d_T_fillGates_56 (Nat.le_of_ble_eq_true rfl) rfl ?_
  refine av_iload_n K d_T_fillGates_58 rfl rfl ?_
  refine av_iload K d_T_fillGates_59 rfl ?_
  refine av_ishr K d_T_fillGates_61 ?_
  refine av_iconst (v := (1 : Int32)) K d_T_fillGates_62 (by decide) ?_
  refine av_iand K d_T_fillGates_63 ?_
  refine av_if_eq (tgt := 88) K d_T_fillGates_64 rfl (fun hc => ?_) (fun hc => ?_)
  · rw [if_pos hc] at h
    refine hv_fg [5] rfl ?_
    exact v_T_fillGates_88 K G hr fu k14 k27 hk14 hk27 (v0) (v1) (v2) (v3) (v4) _ h
  · rw [if_neg hc] at h
    refine av_iload K d_T_fillGates_67 rfl ?_
    refine av_if_eq (tgt := 88) K d_T_fillGates_69 rfl (fun hc => ?_) (fun hc => ?_)
    · rw [if_pos hc] at h
      refine hv_fg [5] rfl ?_
      exact v_T_fillGates_88 K G hr fu k14 k27 hk14 hk27 (v0) (v1) (v2) (v3) (v4) _ h
    · rw [if_neg hc] at h
      refine av_aload_n K d_T_fillGates_72 rfl rfl ?_
      refine av_aload_n K d_T_fillGates_73 rfl rfl ?_
      refine av_iload K d_T_fillGates_74 rfl ?_
      obtain ⟨_, eo76, h⟩ := hp_bd h
      obtain ⟨r1, er1, h⟩ := hp_bd h
      obtain ⟨fs76, ho76⟩ := hp_is_of eo76
      refine av_cVv K G (c_T_fillGate (tab := tabON) er1) (cwV 2 K.2.2.2.2.1 (gV ml_T_68 im_T_fillGate se_T_fillGate in_T co_T_fillGate) rfl rfl rfl cd_T_fillGate ⟨Nat.le_of_ble_eq_true rfl, Nat.le_of_ble_eq_true rfl⟩) rfl ho76 rfl rfl (Nat.le_of_ble_eq_true rfl) d_T_fillGates_76 ⟨Nat.zero_le _, Nat.zero_le _⟩ (fun u9 h9 => ?_)
      subst h9
      refine av_iload_n K d_T_fillGates_79 rfl rfl ?_
      refine av_iconst (v := (1 : Int32)) K d_T_fillGates_80 (by decide) ?_
      refine av_iload K d_T_fillGates_81 rfl ?_
      refine av_ishl K d_T_fillGates_83 ?_
      refine av_iconst (v := (-1 : Int32)) K d_T_fillGates_84 (by decide) ?_
      refine av_ixor K d_T_fillGates_85 ?_
      refine av_iand K d_T_fillGates_86 ?_
      refine av_istore_n K d_T_fillGates_87 rfl (Nat.le_of_ble_eq_true rfl) rfl ?_
      refine hv_fg [5] rfl ?_
      exact v_T_fillGates_88 K G hr fu k14 k27 hk14 hk27 (v0) (v1) ((v2 &&& (((1 : Int32) <<< (v4 &&& 31)) ^^^ (-1 : Int32)))) (v3) (v4) _ h
set_option maxRecDepth 100000 in
set_option maxHeartbeats 4000000 in
theorem v_T_fillGates_27 (K : av_K p s m args meth c D cl8 ca A b_T_fillGates 6 R_T WS) (G : av_G NS tabON A s s.heap) (hr : meth.sig.returnType = none) (fu : Nat) {r : List va_E} (k14 : Nat → Nat → Int32 → Int32 → List va_E → Option (List va_E)) (hk14 : ∀ (v0 : Nat) (v1 : Nat) (v2 : Int32) (v3 : Int32) (w : List va_E), k14 v0 v1 v2 v3 w = some r → av_VV p l e rm_T_fillGates s m args below meth c D cl8 A ad ca 6 r 14 [some (.ref v0), some (.ref v1), some (.int v2), some (.int v3), none, none] [] w) : ∀ (n : Nat) (v0 : Nat) (v1 : Nat) (v2 : Int32) (v3 : Int32) (v4 : Int32) (w : List va_E), f_T_fillGates_27 fu k14 n v0 v1 v2 v3 v4 w = some r → av_VV p l e rm_T_fillGates s m args below meth c D cl8 A ad ca 6 r 27 [some (.ref v0), some (.ref v1), some (.int v2), some (.int v3), some (.int v4), none] [] w := by
  intro n
  induction n with
  | zero => intro _ _ _ _ _ _ h; cases h
  | succ n ih =>
    intro v0 v1 v2 v3 v4 w h
    unfold f_T_fillGates_27 at h
    refine av_iload K d_T_fillGates_27 rfl ?_
    refine av_aload_n K d_T_fillGates_29 rfl rfl ?_
    obtain ⟨x1, ex1, h⟩ := hp_bd h
    refine hv_giN K G fl_T_64 d_T_fillGates_30 ex1 ?_
    refine av_icmp_ge (tgt := 94) K d_T_fillGates_33 rfl (fun hc => ?_) (fun hc => ?_)
    · rw [if_pos hc] at h
      refine av_iinc (v := (v3 + (1 : Int32))) K d_T_fillGates_94 rfl (congrArg (fun z => v3 + z) (show Int32.ofInt 1 = (1 : Int32) by decide)) (Nat.le_of_ble_eq_true rfl) rfl ?_
      refine av_goto (tgt := 14) K d_T_fillGates_97 rfl ?_
      refine hv_fg [4] rfl ?_
      exact hk14 (v0) (v1) (v2) ((v3 + (1 : Int32))) _ h
    · rw [if_neg hc] at h
      refine av_aload_n K d_T_fillGates_36 rfl rfl ?_
      obtain ⟨q2, eq2, h⟩ := hp_bd h
      refine hv_grN K G fl_T_65 d_T_fillGates_37 eq2 ?_
      refine av_iload K d_T_fillGates_40 rfl ?_
      obtain ⟨x3, ex3, h⟩ := hp_bd h
      refine hv_ri K d_T_fillGates_42 ex3 ?_
      refine av_bipush (v := (16 : Int32)) K d_T_fillGates_43 (by decide) ?_
      refine av_ishr K d_T_fillGates_45 ?_
      refine av_iload_n K d_T_fillGates_46 rfl rfl ?_
      refine av_iand K d_T_fillGates_47 ?_
      refine av_if_ne (tgt := 55) K d_T_fillGates_48 rfl (fun hc => ?_) (fun hc => ?_)
      · rw [if_neg hc] at h
        refine av_iconst (v := (0 : Int32)) K d_T_fillGates_55 (by decide) ?_
        exact v_T_fillGates_56 K G hr fu k14 (f_T_fillGates_27 fu k14 n) hk14 ih (v0) (v1) (v2) (v3) (v4) ((0 : Int32)) _ h
      · rw [if_pos hc] at h
        refine av_iconst (v := (1 : Int32)) K d_T_fillGates_51 (by decide) ?_
        refine av_goto (tgt := 56) K d_T_fillGates_52 rfl ?_
        exact v_T_fillGates_56 K G hr fu k14 (f_T_fillGates_27 fu k14 n) hk14 ih (v0) (v1) (v2) (v3) (v4) ((1 : Int32)) _ h
set_option maxRecDepth 100000 in
set_option maxHeartbeats 4000000 in
theorem v_T_fillGates_100 (K : av_K p s m args meth c D cl8 ca A b_T_fillGates 6 R_T WS) (G : av_G NS tabON A s s.heap) (hr : meth.sig.returnType = none) (fu : Nat) {r : List va_E} (w : List va_E) (h : f_T_fillGates_100 fu w = some r) : av_VV p l e rm_T_fillGates s m args below meth c D cl8 A ad ca 6 r 100 [none, none, none, none, none, none] [] w := by
  unfold f_T_fillGates_100 at h
  cases h
  exact av_return K hr d_T_fillGates_100 rfl
set_option maxRecDepth 100000 in
set_option maxHeartbeats 4000000 in
theorem v_T_fillGates_14 (K : av_K p s m args meth c D cl8 ca A b_T_fillGates 6 R_T WS) (G : av_G NS tabON A s s.heap) (hr : meth.sig.returnType = none) (fu : Nat) {r : List va_E} : ∀ (n : Nat) (v0 : Nat) (v1 : Nat) (v2 : Int32) (v3 : Int32) (w : List va_E), f_T_fillGates_14 fu n v0 v1 v2 v3 w = some r → av_VV p l e rm_T_fillGates s m args below meth c D cl8 A ad ca 6 r 14 [some (.ref v0), some (.ref v1), some (.int v2), some (.int v3), none, none] [] w := by
  intro n
  induction n with
  | zero => intro _ _ _ _ _ h; cases h
  | succ n ih =>
    intro v0 v1 v2 v3 w h
    unfold f_T_fillGates_14 at h
    refine av_iload_n K d_T_fillGates_14 rfl rfl ?_
    refine av_bipush (v := (12 : Int32)) K d_T_fillGates_15 (by decide) ?_
    refine av_icmp_ge (tgt := 100) K d_T_fillGates_17 rfl (fun hc => ?_) (fun hc => ?_)
    · rw [if_pos hc] at h
      refine hv_fg [0, 1, 2, 3] rfl ?_
      exact v_T_fillGates_100 K G hr fu _ h
    · rw [if_neg hc] at h
      refine av_iload_n K d_T_fillGates_20 rfl rfl ?_
      refine av_if_eq (tgt := 100) K d_T_fillGates_21 rfl (fun hc => ?_) (fun hc => ?_)
      · rw [if_pos hc] at h
        refine hv_fg [0, 1, 2, 3] rfl ?_
        exact v_T_fillGates_100 K G hr fu _ h
      · rw [if_neg hc] at h
        refine av_iconst (v := (0 : Int32)) K d_T_fillGates_24 (by decide) ?_
        refine av_istore K d_T_fillGates_25 (Nat.le_of_ble_eq_true rfl) rfl ?_
        exact v_T_fillGates_27 K G hr fu (f_T_fillGates_14 fu n) ih fu (v0) (v1) (v2) (v3) ((0 : Int32)) _ h
set_option maxRecDepth 100000 in
set_option maxHeartbeats 4000000 in
theorem v_T_fillGates (K : av_K p s m args meth c D cl8 ca A b_T_fillGates 6 R_T WS) (G : av_G NS tabON A s s.heap) (hr : meth.sig.returnType = none) (fu : Nat) {r : List va_E} (v0 : Nat) (v1 : Nat) (w : List va_E) (h : f_T_fillGates fu v0 v1 w = some r) : av_VV p l e rm_T_fillGates s m args below meth c D cl8 A ad ca 6 r 0 [some (.ref v0), some (.ref v1), none, none, none, none] [] w := by
  unfold f_T_fillGates at h
  refine av_aload_n K d_T_fillGates_0 rfl rfl ?_
  refine av_aload_n K d_T_fillGates_1 rfl rfl ?_
  obtain ⟨x1, ex1, h⟩ := hp_bd h
  refine hv_gi K fl_T_27 d_T_fillGates_2 ex1 ?_
  obtain ⟨_, eo5, h⟩ := hp_bd h
  obtain ⟨r2, er2, h⟩ := hp_bd h
  obtain ⟨fs5, ho5⟩ := hp_is_of eo5
  refine av_cVi K G (c_G_withBelow (tab := tabON) er2) (cwV 1 K.2.2.2.2.1 (gV ml_T_58 im_G_withBelow se_G_withBelow in_G co_G_withBelow) rfl rfl rfl cd_G_withBelow ⟨Nat.le_of_ble_eq_true rfl, Nat.le_of_ble_eq_true rfl⟩) rfl ho5 rfl rfl (Nat.le_of_ble_eq_true rfl) d_T_fillGates_5 ⟨Nat.zero_le _, Nat.zero_le _⟩ (fun a9 u9 h9 => ?_)
  obtain ⟨rfl, rfl⟩ : a9 = r2.1 ∧ u9 = r2.2 := ⟨congrArg Prod.fst h9, congrArg Prod.snd h9⟩
  refine av_bipush (v := (16 : Int32)) K d_T_fillGates_8 (by decide) ?_
  refine av_ishr K d_T_fillGates_10 ?_
  refine av_istore_n K d_T_fillGates_11 rfl (Nat.le_of_ble_eq_true rfl) rfl ?_
  refine av_iconst (v := (0 : Int32)) K d_T_fillGates_12 (by decide) ?_
  refine av_istore_n K d_T_fillGates_13 rfl (Nat.le_of_ble_eq_true rfl) rfl ?_
  exact v_T_fillGates_14 K G hr fu fu (v0) (v1) ((r2.1 >>> ((16 : Int32) &&& 31))) ((0 : Int32)) _ h
end
set_option maxRecDepth 100000 in
theorem c_T_fillGates {l : Launch} {D : va_G} {ca : Nat → Nat} {tab : Nat → Int64} {fu : Nat} {v0 : Nat} {v1 : Nat} {w : List va_E} {r : List va_E} (h : f_T_fillGates fu v0 v1 w = some r) : av_Cv l D cl8 ca NS tabON y_T_fillGates w_T_fillGates rm_T_fillGates [.ref v0, .ref v1] w (fun u => u = r) :=
  av_inV (cc := b_T_fillGates) (nL := 6) (by decide +kernel) rfl (Nat.le_of_ble_eq_true rfl) (fun p e s m args below meth c A ad K G hr => v_T_fillGates K G hr fu v0 v1 w h)

-- FaultTreeDesk$Truth.fill(LFaultTreeDesk$Events;LFaultTreeDesk$Gates;II)V
theorem d_T_fill_0 : decode b_T_fill 0 = .ok (.aload_n 0, 1) := by decide +kernel
theorem d_T_fill_1 : decode b_T_fill 1 = .ok (.iconst 1, 1) := by decide +kernel
theorem d_T_fill_2 : decode b_T_fill 2 = .ok (.aload_n 1, 1) := by decide +kernel
theorem d_T_fill_3 : decode b_T_fill 3 = .ok (.getfield 30, 3) := by decide +kernel
theorem d_T_fill_6 : decode b_T_fill 6 = .ok (.ishl, 1) := by decide +kernel
theorem d_T_fill_7 : decode b_T_fill 7 = .ok (.putfield 20, 3) := by decide +kernel
theorem d_T_fill_10 : decode b_T_fill 10 = .ok (.aload_n 0, 1) := by decide +kernel
theorem d_T_fill_11 : decode b_T_fill 11 = .ok (.iconst 1, 1) := by decide +kernel
theorem d_T_fill_12 : decode b_T_fill 12 = .ok (.aload_n 0, 1) := by decide +kernel
theorem d_T_fill_13 : decode b_T_fill 13 = .ok (.getfield 20, 3) := by decide +kernel
theorem d_T_fill_16 : decode b_T_fill 16 = .ok (.bipush 64, 2) := by decide +kernel
theorem d_T_fill_18 : decode b_T_fill 18 = .ok (.idiv, 1) := by decide +kernel
theorem d_T_fill_19 : decode b_T_fill 19 = .ok (.invokestatic 35, 3) := by decide +kernel
theorem d_T_fill_22 : decode b_T_fill 22 = .ok (.putfield 24, 3) := by decide +kernel
theorem d_T_fill_25 : decode b_T_fill 25 = .ok (.aload_n 0, 1) := by decide +kernel
theorem d_T_fill_26 : decode b_T_fill 26 = .ok (.bipush 16, 2) := by decide +kernel
theorem d_T_fill_28 : decode b_T_fill 28 = .ok (.iload_n 3, 1) := by decide +kernel
theorem d_T_fill_29 : decode b_T_fill 29 = .ok (.iadd, 1) := by decide +kernel
theorem d_T_fill_30 : decode b_T_fill 30 = .ok (.putfield 27, 3) := by decide +kernel
theorem d_T_fill_33 : decode b_T_fill 33 = .ok (.iconst 0, 1) := by decide +kernel
theorem d_T_fill_34 : decode b_T_fill 34 = .ok (.istore 5, 2) := by decide +kernel
theorem d_T_fill_36 : decode b_T_fill 36 = .ok (.iload 5, 2) := by decide +kernel
theorem d_T_fill_38 : decode b_T_fill 38 = .ok (.aload_n 1, 1) := by decide +kernel
theorem d_T_fill_39 : decode b_T_fill 39 = .ok (.getfield 30, 3) := by decide +kernel
theorem d_T_fill_42 : decode b_T_fill 42 = .ok (.if_icmp .ge 33, 3) := by decide +kernel
theorem d_T_fill_45 : decode b_T_fill 45 = .ok (.aload_n 0, 1) := by decide +kernel
theorem d_T_fill_46 : decode b_T_fill 46 = .ok (.iload 5, 2) := by decide +kernel
theorem d_T_fill_48 : decode b_T_fill 48 = .ok (.iload 5, 2) := by decide +kernel
theorem d_T_fill_50 : decode b_T_fill 50 = .ok (.iload 4, 2) := by decide +kernel
theorem d_T_fill_52 : decode b_T_fill 52 = .ok (.if_icmp .ne 7, 3) := by decide +kernel
theorem d_T_fill_55 : decode b_T_fill 55 = .ok (.iconst 0, 1) := by decide +kernel
theorem d_T_fill_56 : decode b_T_fill 56 = .ok (.goto 10, 3) := by decide +kernel
theorem d_T_fill_59 : decode b_T_fill 59 = .ok (.aload_n 1, 1) := by decide +kernel
theorem d_T_fill_60 : decode b_T_fill 60 = .ok (.getfield 41, 3) := by decide +kernel
theorem d_T_fill_63 : decode b_T_fill 63 = .ok (.iload 5, 2) := by decide +kernel
theorem d_T_fill_65 : decode b_T_fill 65 = .ok (.iaload, 1) := by decide +kernel
theorem d_T_fill_66 : decode b_T_fill 66 = .ok (.invokevirtual 44, 3) := by decide +kernel
theorem d_T_fill_69 : decode b_T_fill 69 = .ok (.iinc 5 1, 3) := by decide +kernel
theorem d_T_fill_72 : decode b_T_fill 72 = .ok (.goto (-36), 3) := by decide +kernel
theorem d_T_fill_75 : decode b_T_fill 75 = .ok (.aload_n 0, 1) := by decide +kernel
theorem d_T_fill_76 : decode b_T_fill 76 = .ok (.aload_n 2, 1) := by decide +kernel
theorem d_T_fill_77 : decode b_T_fill 77 = .ok (.invokevirtual 48, 3) := by decide +kernel
theorem d_T_fill_80 : decode b_T_fill 80 = .ok (.return_, 1) := by decide +kernel
def rm_T_fill : Room := { frames := 3, cells := 0, slots := 0, locals := 86 }
def f_T_fill_66 (fu : Nat) (k36 : Nat → Nat → Nat → Int32 → Int32 → List va_E → Option (List va_E)) (v0 : Nat) (v1 : Nat) (v2 : Nat) (v4 : Int32) (v5 : Int32) (s0 : Nat) (s1 : Int32) (s2 : Int32) (w : List va_E) : Option (List va_E) := ((hp_is w s0 5).bind fun _ => ((f_T_fillEvent fu s0 s1 s2 w).bind fun r1 => (k36 (v0) (v1) (v2) (v4) ((v5 + (1 : Int32))) r1)))
def f_T_fill_36 (fu : Nat) : Nat → Nat → Nat → Nat → Int32 → Int32 → List va_E → Option (List va_E)
  | 0, _, _, _, _, _, _ => none
  | n + 1, v0, v1, v2, v4, v5, w => ((hp_gi w v1 1 2).bind fun x1 => (if x1 ≤ v5 then ((hp_is w v0 5).bind fun _ => ((f_T_fillGates fu v0 v2 w).bind fun r2 => (some r2))) else (if v5 = v4 then (f_T_fill_66 fu (f_T_fill_36 fu n) (v0) (v1) (v2) (v4) (v5) (v0) (v5) ((0 : Int32)) w) else ((hp_gr w v1 1 1).bind fun q3 => ((hp_ri w q3 v5).bind fun x4 => (f_T_fill_66 fu (f_T_fill_36 fu n) (v0) (v1) (v2) (v4) (v5) (v0) (v5) (x4) w))))))
def f_T_fill (fu : Nat) (v0 : Nat) (v1 : Nat) (v2 : Nat) (v3 : Int32) (v4 : Int32) (w : List va_E) : Option (List va_E) := ((hp_gi w v1 1 2).bind fun x1 => ((hp_pi w v0 5 2 ((1 : Int32) <<< (x1 &&& 31))).bind fun w2 => ((hp_gi w2 v0 5 2).bind fun x3 => ((hp_pi w2 v0 5 3 (if (1 : Int32) < (x3 / (64 : Int32)) then (x3 / (64 : Int32)) else (1 : Int32))).bind fun w4 => ((hp_pi w4 v0 5 4 ((16 : Int32) + v3)).bind fun w5 => (f_T_fill_36 fu fu (v0) (v1) (v2) (v4) ((0 : Int32)) w5))))))
section
variable {p : Program} {l : Launch} {e : Env} {s : State} {m : MethodId} {args : Array Value} {below : List Frame} {meth : Method} {c : Code} {D : va_G} {ca : Nat → Nat} {A : Nat → Prop} {ad : Nat → Nat}
set_option maxRecDepth 100000 in
set_option maxHeartbeats 4000000 in
theorem v_T_fill_66 (K : av_K p s m args meth c D cl8 ca A b_T_fill 6 R_T WS) (G : av_G NS tabON A s s.heap) (hr : meth.sig.returnType = none) (fu : Nat) {r : List va_E} (k36 : Nat → Nat → Nat → Int32 → Int32 → List va_E → Option (List va_E)) (hk36 : ∀ (v0 : Nat) (v1 : Nat) (v2 : Nat) (v4 : Int32) (v5 : Int32) (w : List va_E), k36 v0 v1 v2 v4 v5 w = some r → av_VV p l e rm_T_fill s m args below meth c D cl8 A ad ca 6 r 36 [some (.ref v0), some (.ref v1), some (.ref v2), none, some (.int v4), some (.int v5)] [] w) (v0 : Nat) (v1 : Nat) (v2 : Nat) (v4 : Int32) (v5 : Int32) (s0 : Nat) (s1 : Int32) (s2 : Int32) (w : List va_E) (h : f_T_fill_66 fu k36 v0 v1 v2 v4 v5 s0 s1 s2 w = some r) : av_VV p l e rm_T_fill s m args below meth c D cl8 A ad ca 6 r 66 [some (.ref v0), some (.ref v1), some (.ref v2), none, some (.int v4), some (.int v5)] [.int s2, .int s1, .ref s0] w := by
  unfold f_T_fill_66 at h
  obtain ⟨_, eo66, h⟩ := hp_bd h
  obtain ⟨r1, er1, h⟩ := hp_bd h
  obtain ⟨fs66, ho66⟩ := hp_is_of eo66
  refine av_cVv K G (c_T_fillEvent (tab := tabON) er1) (cwV 2 K.2.2.2.2.1 (gV ml_T_44 im_T_fillEvent se_T_fillEvent in_T co_T_fillEvent) rfl rfl rfl cd_T_fillEvent ⟨Nat.le_of_ble_eq_true rfl, Nat.le_of_ble_eq_true rfl⟩) rfl ho66 rfl rfl (Nat.le_of_ble_eq_true rfl) d_T_fill_66 ⟨Nat.zero_le _, Nat.zero_le _⟩ (fun u9 h9 => ?_)
  subst h9
  refine av_iinc (v := (v5 + (1 : Int32))) K d_T_fill_69 rfl (congrArg (fun z => v5 + z) (show Int32.ofInt 1 = (1 : Int32) by decide)) (Nat.le_of_ble_eq_true rfl) rfl ?_
  refine av_goto (tgt := 36) K d_T_fill_72 rfl ?_
  exact hk36 (v0) (v1) (v2) (v4) ((v5 + (1 : Int32))) _ h
set_option maxRecDepth 100000 in
set_option maxHeartbeats 4000000 in
theorem v_T_fill_36 (K : av_K p s m args meth c D cl8 ca A b_T_fill 6 R_T WS) (G : av_G NS tabON A s s.heap) (hr : meth.sig.returnType = none) (fu : Nat) {r : List va_E} : ∀ (n : Nat) (v0 : Nat) (v1 : Nat) (v2 : Nat) (v4 : Int32) (v5 : Int32) (w : List va_E), f_T_fill_36 fu n v0 v1 v2 v4 v5 w = some r → av_VV p l e rm_T_fill s m args below meth c D cl8 A ad ca 6 r 36 [some (.ref v0), some (.ref v1), some (.ref v2), none, some (.int v4), some (.int v5)] [] w := by
  intro n
  induction n with
  | zero => intro _ _ _ _ _ _ h; cases h
  | succ n ih =>
    intro v0 v1 v2 v4 v5 w h
    unfold f_T_fill_36 at h
    refine av_iload K d_T_fill_36 rfl ?_
    refine av_aload_n K d_T_fill_38 rfl rfl ?_
    obtain ⟨x1, ex1, h⟩ := hp_bd h
    refine hv_giN K G fl_T_30 d_T_fill_39 ex1 ?_
    refine av_icmp_ge (tgt := 75) K d_T_fill_42 rfl (fun hc => ?_) (fun hc => ?_)
    · rw [if_pos hc] at h
      refine av_aload_n K d_T_fill_75 rfl rfl ?_
      refine av_aload_n K d_T_fill_76 rfl rfl ?_
      obtain ⟨_, eo77, h⟩ := hp_bd h
      obtain ⟨r2, er2, h⟩ := hp_bd h
      obtain ⟨fs77, ho77⟩ := hp_is_of eo77
      refine av_cVv K G (c_T_fillGates (tab := tabON) er2) (cwV 1 K.2.2.2.2.1 (gV ml_T_48 im_T_fillGates se_T_fillGates in_T co_T_fillGates) rfl rfl rfl cd_T_fillGates ⟨Nat.le_of_ble_eq_true rfl, Nat.le_of_ble_eq_true rfl⟩) rfl ho77 rfl rfl (Nat.le_of_ble_eq_true rfl) d_T_fill_77 ⟨Nat.zero_le _, Nat.zero_le _⟩ (fun u9 h9 => ?_)
      subst h9
      cases h
      exact av_return K hr d_T_fill_80 rfl
    · rw [if_neg hc] at h
      refine av_aload_n K d_T_fill_45 rfl rfl ?_
      refine av_iload K d_T_fill_46 rfl ?_
      refine av_iload K d_T_fill_48 rfl ?_
      refine av_iload K d_T_fill_50 rfl ?_
      refine av_icmp_ne (tgt := 59) K d_T_fill_52 rfl (fun hc => ?_) (fun hc => ?_)
      · rw [if_neg hc] at h
        refine av_aload_n K d_T_fill_59 rfl rfl ?_
        obtain ⟨q3, eq3, h⟩ := hp_bd h
        refine hv_grN K G fl_T_41 d_T_fill_60 eq3 ?_
        refine av_iload K d_T_fill_63 rfl ?_
        obtain ⟨x4, ex4, h⟩ := hp_bd h
        refine hv_ri K d_T_fill_65 ex4 ?_
        exact v_T_fill_66 K G hr fu (f_T_fill_36 fu n) ih (v0) (v1) (v2) (v4) (v5) (v0) (v5) (x4) _ h
      · rw [if_pos hc] at h
        refine av_iconst (v := (0 : Int32)) K d_T_fill_55 (by decide) ?_
        refine av_goto (tgt := 66) K d_T_fill_56 rfl ?_
        exact v_T_fill_66 K G hr fu (f_T_fill_36 fu n) ih (v0) (v1) (v2) (v4) (v5) (v0) (v5) ((0 : Int32)) _ h
set_option maxRecDepth 100000 in
set_option maxHeartbeats 4000000 in
theorem v_T_fill (K : av_K p s m args meth c D cl8 ca A b_T_fill 6 R_T WS) (G : av_G NS tabON A s s.heap) (hr : meth.sig.returnType = none) (fu : Nat) {r : List va_E} (v0 : Nat) (v1 : Nat) (v2 : Nat) (v3 : Int32) (v4 : Int32) (w : List va_E) (h : f_T_fill fu v0 v1 v2 v3 v4 w = some r) : av_VV p l e rm_T_fill s m args below meth c D cl8 A ad ca 6 r 0 [some (.ref v0), some (.ref v1), some (.ref v2), some (.int v3), some (.int v4), none] [] w := by
  unfold f_T_fill at h
  refine av_aload_n K d_T_fill_0 rfl rfl ?_
  refine av_iconst (v := (1 : Int32)) K d_T_fill_1 (by decide) ?_
  refine av_aload_n K d_T_fill_2 rfl rfl ?_
  obtain ⟨x1, ex1, h⟩ := hp_bd h
  refine hv_giN K G fl_T_30 d_T_fill_3 ex1 ?_
  refine av_ishl K d_T_fill_6 ?_
  obtain ⟨w2, ew2, h⟩ := hp_bd h
  refine hv_pi K fp_T_20 d_T_fill_7 ew2 ?_
  refine av_aload_n K d_T_fill_10 rfl rfl ?_
  refine av_iconst (v := (1 : Int32)) K d_T_fill_11 (by decide) ?_
  refine av_aload_n K d_T_fill_12 rfl rfl ?_
  obtain ⟨x3, ex3, h⟩ := hp_bd h
  refine hv_gi K fl_T_20 d_T_fill_13 ex3 ?_
  refine av_bipush (v := (64 : Int32)) K d_T_fill_16 (by decide) ?_
  refine av_idiv K d_T_fill_18 (by decide) ?_
  refine av_max K ml_T_35 sm_JM_max in_JM co_JM_max (Nat.le_of_ble_eq_true rfl) (Nat.le_of_ble_eq_true rfl) (Nat.zero_le _) (Nat.zero_le _) d_T_fill_19 ?_
  obtain ⟨w4, ew4, h⟩ := hp_bd h
  refine hv_pi K fp_T_24 d_T_fill_22 ew4 ?_
  refine av_aload_n K d_T_fill_25 rfl rfl ?_
  refine av_bipush (v := (16 : Int32)) K d_T_fill_26 (by decide) ?_
  refine av_iload_n K d_T_fill_28 rfl rfl ?_
  refine av_iadd K d_T_fill_29 ?_
  obtain ⟨w5, ew5, h⟩ := hp_bd h
  refine hv_pi K fp_T_27 d_T_fill_30 ew5 ?_
  refine av_iconst (v := (0 : Int32)) K d_T_fill_33 (by decide) ?_
  refine av_istore K d_T_fill_34 (Nat.le_of_ble_eq_true rfl) rfl ?_
  refine hv_fg [3] rfl ?_
  exact v_T_fill_36 K G hr fu fu (v0) (v1) (v2) (v4) ((0 : Int32)) _ h
end
set_option maxRecDepth 100000 in
theorem c_T_fill {l : Launch} {D : va_G} {ca : Nat → Nat} {tab : Nat → Int64} {fu : Nat} {v0 : Nat} {v1 : Nat} {v2 : Nat} {v3 : Int32} {v4 : Int32} {w : List va_E} {r : List va_E} (h : f_T_fill fu v0 v1 v2 v3 v4 w = some r) : av_Cv l D cl8 ca NS tabON y_T_fill w_T_fill rm_T_fill [.ref v0, .ref v1, .ref v2, .int v3, .int v4] w (fun u => u = r) :=
  av_inV (cc := b_T_fill) (nL := 6) (by decide +kernel) rfl (Nat.le_of_ble_eq_true rfl) (fun p e s m args below meth c A ad K G hr => v_T_fill K G hr fu v0 v1 v2 v3 v4 w h)

-- FaultTreeDesk$Truth.isTrue(I)Z
theorem d_T_isTrue_0 : decode b_T_isTrue 0 = .ok (.iload_n 1, 1) := by decide +kernel
theorem d_T_isTrue_1 : decode b_T_isTrue 1 = .ok (.aload_n 0, 1) := by decide +kernel
theorem d_T_isTrue_2 : decode b_T_isTrue 2 = .ok (.getfield 20, 3) := by decide +kernel
theorem d_T_isTrue_5 : decode b_T_isTrue 5 = .ok (.iconst 1, 1) := by decide +kernel
theorem d_T_isTrue_6 : decode b_T_isTrue 6 = .ok (.isub, 1) := by decide +kernel
theorem d_T_isTrue_7 : decode b_T_isTrue 7 = .ok (.iand, 1) := by decide +kernel
theorem d_T_isTrue_8 : decode b_T_isTrue 8 = .ok (.istore_n 2, 1) := by decide +kernel
theorem d_T_isTrue_9 : decode b_T_isTrue 9 = .ok (.aload_n 0, 1) := by decide +kernel
theorem d_T_isTrue_10 : decode b_T_isTrue 10 = .ok (.getfield 11, 3) := by decide +kernel
theorem d_T_isTrue_13 : decode b_T_isTrue 13 = .ok (.aload_n 0, 1) := by decide +kernel
theorem d_T_isTrue_14 : decode b_T_isTrue 14 = .ok (.getfield 27, 3) := by decide +kernel
theorem d_T_isTrue_17 : decode b_T_isTrue 17 = .ok (.aaload, 1) := by decide +kernel
theorem d_T_isTrue_18 : decode b_T_isTrue 18 = .ok (.iload_n 2, 1) := by decide +kernel
theorem d_T_isTrue_19 : decode b_T_isTrue 19 = .ok (.bipush 64, 2) := by decide +kernel
theorem d_T_isTrue_21 : decode b_T_isTrue 21 = .ok (.idiv, 1) := by decide +kernel
theorem d_T_isTrue_22 : decode b_T_isTrue 22 = .ok (.laload, 1) := by decide +kernel
theorem d_T_isTrue_23 : decode b_T_isTrue 23 = .ok (.iload_n 2, 1) := by decide +kernel
theorem d_T_isTrue_24 : decode b_T_isTrue 24 = .ok (.bipush 64, 2) := by decide +kernel
theorem d_T_isTrue_26 : decode b_T_isTrue 26 = .ok (.irem, 1) := by decide +kernel
theorem d_T_isTrue_27 : decode b_T_isTrue 27 = .ok (.lushr, 1) := by decide +kernel
theorem d_T_isTrue_28 : decode b_T_isTrue 28 = .ok (.lconst 1, 1) := by decide +kernel
theorem d_T_isTrue_29 : decode b_T_isTrue 29 = .ok (.land, 1) := by decide +kernel
theorem d_T_isTrue_30 : decode b_T_isTrue 30 = .ok (.lconst 0, 1) := by decide +kernel
theorem d_T_isTrue_31 : decode b_T_isTrue 31 = .ok (.lcmp, 1) := by decide +kernel
theorem d_T_isTrue_32 : decode b_T_isTrue 32 = .ok (.ifCond .eq 7, 3) := by decide +kernel
theorem d_T_isTrue_35 : decode b_T_isTrue 35 = .ok (.iconst 1, 1) := by decide +kernel
theorem d_T_isTrue_36 : decode b_T_isTrue 36 = .ok (.goto 4, 3) := by decide +kernel
theorem d_T_isTrue_39 : decode b_T_isTrue 39 = .ok (.iconst 0, 1) := by decide +kernel
theorem d_T_isTrue_40 : decode b_T_isTrue 40 = .ok (.ireturn, 1) := by decide +kernel
def rm_T_isTrue : Room := { frames := 0, cells := 0, slots := 0, locals := 0 }
def f_T_isTrue_40 (fu : Nat) (s0 : Int32) (w : List va_E) : Option (Int32 × List va_E) := (if s0 = 0 ∨ s0 = 1 then some (s0, w) else none)
def f_T_isTrue (fu : Nat) (v0 : Nat) (v1 : Int32) (w : List va_E) : Option (Int32 × List va_E) := ((hp_gi w v0 5 2).bind fun x1 => ((hp_gr w v0 5 0).bind fun q2 => ((hp_gi w v0 5 4).bind fun x3 => ((hp_ra w q2 x3).bind fun q4 => ((hp_rl w q4 ((v1 &&& (x1 - (1 : Int32))) / (64 : Int32))).bind fun y5 => (if (lg_cmp (((y5).toUInt64 >>> ((((v1 &&& (x1 - (1 : Int32))) - (v1 &&& (x1 - (1 : Int32))) / (64 : Int32) * (64 : Int32))).toInt64.toUInt64 &&& Int64.toUInt64 63)).toInt64 &&& (1 : Int64)) (0 : Int64)) = 0 then (f_T_isTrue_40 fu ((0 : Int32)) w) else (f_T_isTrue_40 fu ((1 : Int32)) w)))))))
section
variable {p : Program} {l : Launch} {e : Env} {s : State} {m : MethodId} {args : Array Value} {below : List Frame} {meth : Method} {c : Code} {D : va_G} {ca : Nat → Nat} {A : Nat → Prop} {ad : Nat → Nat}
set_option maxRecDepth 100000 in
set_option maxHeartbeats 4000000 in
theorem v_T_isTrue_40 (K : av_K p s m args meth c D cl8 ca A b_T_isTrue 3 R_T WS) (G : av_G NS tabON A s s.heap) (hr : meth.sig.returnType = some .boolean) (fu : Nat) {r : Int32 × List va_E} (s0 : Int32) (w : List va_E) (h : f_T_isTrue_40 fu s0 w = some r) : av_VI p l e rm_T_isTrue s m args below meth c D cl8 A ad ca 3 r 40 [none, none, none] [.int s0] w := by
  unfold f_T_isTrue_40 at h
  obtain ⟨hz, h⟩ := hp_if h
  cases h
  exact av_zreturn K hr (hp_nz hz) d_T_isTrue_40 rfl
set_option maxRecDepth 100000 in
set_option maxHeartbeats 4000000 in
theorem v_T_isTrue (K : av_K p s m args meth c D cl8 ca A b_T_isTrue 3 R_T WS) (G : av_G NS tabON A s s.heap) (hr : meth.sig.returnType = some .boolean) (fu : Nat) {r : Int32 × List va_E} (v0 : Nat) (v1 : Int32) (w : List va_E) (h : f_T_isTrue fu v0 v1 w = some r) : av_VI p l e rm_T_isTrue s m args below meth c D cl8 A ad ca 3 r 0 [some (.ref v0), some (.int v1), none] [] w := by
  unfold f_T_isTrue at h
  refine av_iload_n K d_T_isTrue_0 rfl rfl ?_
  refine av_aload_n K d_T_isTrue_1 rfl rfl ?_
  obtain ⟨x1, ex1, h⟩ := hp_bd h
  refine hv_gi K fl_T_20 d_T_isTrue_2 ex1 ?_
  refine av_iconst (v := (1 : Int32)) K d_T_isTrue_5 (by decide) ?_
  refine av_isub K d_T_isTrue_6 ?_
  refine av_iand K d_T_isTrue_7 ?_
  refine av_istore_n K d_T_isTrue_8 rfl (Nat.le_of_ble_eq_true rfl) rfl ?_
  refine av_aload_n K d_T_isTrue_9 rfl rfl ?_
  obtain ⟨q2, eq2, h⟩ := hp_bd h
  refine hv_gr K fl_T_11 d_T_isTrue_10 eq2 ?_
  refine av_aload_n K d_T_isTrue_13 rfl rfl ?_
  obtain ⟨x3, ex3, h⟩ := hp_bd h
  refine hv_gi K fl_T_27 d_T_isTrue_14 ex3 ?_
  obtain ⟨q4, eq4, h⟩ := hp_bd h
  refine hv_ra K d_T_isTrue_17 eq4 ?_
  refine av_iload_n K d_T_isTrue_18 rfl rfl ?_
  refine av_bipush (v := (64 : Int32)) K d_T_isTrue_19 (by decide) ?_
  refine av_idiv K d_T_isTrue_21 (by decide) ?_
  obtain ⟨y5, ey5, h⟩ := hp_bd h
  refine hv_rl K d_T_isTrue_22 ey5 ?_
  refine av_iload_n K d_T_isTrue_23 rfl rfl ?_
  refine av_bipush (v := (64 : Int32)) K d_T_isTrue_24 (by decide) ?_
  refine av_irem K d_T_isTrue_26 (by decide) ?_
  refine av_lushr K d_T_isTrue_27 ?_
  refine av_lconst (v := (1 : Int64)) K d_T_isTrue_28 (by decide) ?_
  refine av_land K d_T_isTrue_29 ?_
  refine av_lconst (v := (0 : Int64)) K d_T_isTrue_30 (by decide) ?_
  refine av_lcmp K d_T_isTrue_31 ?_
  refine av_if_eq (tgt := 39) K d_T_isTrue_32 rfl (fun hc => ?_) (fun hc => ?_)
  · rw [if_pos hc] at h
    refine av_iconst (v := (0 : Int32)) K d_T_isTrue_39 (by decide) ?_
    refine hv_fg [0, 1, 2] rfl ?_
    exact v_T_isTrue_40 K G hr fu ((0 : Int32)) _ h
  · rw [if_neg hc] at h
    refine av_iconst (v := (1 : Int32)) K d_T_isTrue_35 (by decide) ?_
    refine av_goto (tgt := 40) K d_T_isTrue_36 rfl ?_
    refine hv_fg [0, 1, 2] rfl ?_
    exact v_T_isTrue_40 K G hr fu ((1 : Int32)) _ h
end
set_option maxRecDepth 100000 in
theorem c_T_isTrue {l : Launch} {D : va_G} {ca : Nat → Nat} {tab : Nat → Int64} {fu : Nat} {v0 : Nat} {v1 : Int32} {w : List va_E} {r : Int32 × List va_E} (h : f_T_isTrue fu v0 v1 w = some r) : av_Ci l D cl8 ca NS tabON y_T_isTrue w_T_isTrue rm_T_isTrue [.ref v0, .int v1] w (fun v u => (v, u) = r) :=
  av_inI (cc := b_T_isTrue) (nL := 3) (by decide +kernel) rfl (Nat.le_of_ble_eq_true rfl) (fun p e s m args below meth c A ad K G hr => v_T_isTrue K G hr fu v0 v1 w h)
end
