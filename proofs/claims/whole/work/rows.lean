section
/-- a private method of a class that the tables say can be made, by its rows of tables_1 -/
def lw_okq (q : MethodName × Nat) : Prop := (q.1.cls ≠ "java/lang/invoke/MethodHandle" ∧ q.1.cls ≠ "java/lang/invoke/VarHandle") ∧ Cond.instantiable q.1.cls q.2 ∈ tables_1 ∧ Cond.privateMethod q.1 ∈ tables_1 ∧ Cond.instanceMethod q.1 ∈ tables_1
theorem lw_p0 : lw_okq (⟨"FaultTreeDesk", "needChance", "(I)V"⟩, 9) := ⟨⟨by decide +kernel, by decide +kernel⟩, List.mem_of_getElem? (i := 21) (by decide +kernel), List.mem_of_getElem? (i := 197) (by decide +kernel), List.mem_of_getElem? (i := 198) (by decide +kernel)⟩
theorem lw_p1 : lw_okq (⟨"java/lang/Throwable", "fillInStackTrace", "(I)Ljava/lang/Throwable;"⟩, 6) := ⟨⟨by decide +kernel, by decide +kernel⟩, List.mem_of_getElem? (i := 240) (by decide +kernel), List.mem_of_getElem? (i := 238) (by decide +kernel), List.mem_of_getElem? (i := 239) (by decide +kernel)⟩
theorem lw_p2 : lw_okq (⟨"FaultTreeDesk", "forgetAnswers", "()V"⟩, 9) := ⟨⟨by decide +kernel, by decide +kernel⟩, List.mem_of_getElem? (i := 21) (by decide +kernel), List.mem_of_getElem? (i := 286) (by decide +kernel), List.mem_of_getElem? (i := 287) (by decide +kernel)⟩
theorem lw_p3 : lw_okq (⟨"FaultTreeDesk", "needEvent", "(I)V"⟩, 9) := ⟨⟨by decide +kernel, by decide +kernel⟩, List.mem_of_getElem? (i := 21) (by decide +kernel), List.mem_of_getElem? (i := 301) (by decide +kernel), List.mem_of_getElem? (i := 302) (by decide +kernel)⟩
theorem lw_p4 : lw_okq (⟨"FaultTreeDesk", "needGate", "(I)V"⟩, 9) := ⟨⟨by decide +kernel, by decide +kernel⟩, List.mem_of_getElem? (i := 21) (by decide +kernel), List.mem_of_getElem? (i := 340) (by decide +kernel), List.mem_of_getElem? (i := 341) (by decide +kernel)⟩
theorem lw_p5 : lw_okq (⟨"FaultTreeDesk", "needTop", "()V"⟩, 9) := ⟨⟨by decide +kernel, by decide +kernel⟩, List.mem_of_getElem? (i := 21) (by decide +kernel), List.mem_of_getElem? (i := 411) (by decide +kernel), List.mem_of_getElem? (i := 412) (by decide +kernel)⟩
theorem lw_p6 : lw_okq (⟨"FaultTreeDesk", "freshenTruth", "()V"⟩, 9) := ⟨⟨by decide +kernel, by decide +kernel⟩, List.mem_of_getElem? (i := 21) (by decide +kernel), List.mem_of_getElem? (i := 416) (by decide +kernel), List.mem_of_getElem? (i := 417) (by decide +kernel)⟩
theorem lw_p7 : lw_okq (⟨"FaultTreeDesk$Truth", "fillEvent", "(II)V"⟩, 5) := ⟨⟨by decide +kernel, by decide +kernel⟩, List.mem_of_getElem? (i := 81) (by decide +kernel), List.mem_of_getElem? (i := 427) (by decide +kernel), List.mem_of_getElem? (i := 428) (by decide +kernel)⟩
theorem lw_p8 : lw_okq (⟨"FaultTreeDesk$Truth", "fillGates", "(LFaultTreeDesk$Gates;)V"⟩, 5) := ⟨⟨by decide +kernel, by decide +kernel⟩, List.mem_of_getElem? (i := 81) (by decide +kernel), List.mem_of_getElem? (i := 434) (by decide +kernel), List.mem_of_getElem? (i := 435) (by decide +kernel)⟩
theorem lw_p9 : lw_okq (⟨"FaultTreeDesk$Truth", "fillGate", "(LFaultTreeDesk$Gates;I)V"⟩, 5) := ⟨⟨by decide +kernel, by decide +kernel⟩, List.mem_of_getElem? (i := 81) (by decide +kernel), List.mem_of_getElem? (i := 439) (by decide +kernel), List.mem_of_getElem? (i := 440) (by decide +kernel)⟩
theorem lw_p10 : lw_okq (⟨"FaultTreeDesk$Truth", "listInputs", "(I)I"⟩, 5) := ⟨⟨by decide +kernel, by decide +kernel⟩, List.mem_of_getElem? (i := 81) (by decide +kernel), List.mem_of_getElem? (i := 443) (by decide +kernel), List.mem_of_getElem? (i := 444) (by decide +kernel)⟩
theorem lw_p11 : lw_okq (⟨"FaultTreeDesk$Truth", "oddWord", "(II)J"⟩, 5) := ⟨⟨by decide +kernel, by decide +kernel⟩, List.mem_of_getElem? (i := 81) (by decide +kernel), List.mem_of_getElem? (i := 447) (by decide +kernel), List.mem_of_getElem? (i := 448) (by decide +kernel)⟩
theorem lw_p12 : lw_okq (⟨"FaultTreeDesk$Truth", "atLeastWord", "(III)J"⟩, 5) := ⟨⟨by decide +kernel, by decide +kernel⟩, List.mem_of_getElem? (i := 81) (by decide +kernel), List.mem_of_getElem? (i := 451) (by decide +kernel), List.mem_of_getElem? (i := 452) (by decide +kernel)⟩
theorem lw_p13 : lw_okq (⟨"FaultTreeDesk$Diagram", "numberOf", "(III)I"⟩, 3) := ⟨⟨by decide +kernel, by decide +kernel⟩, List.mem_of_getElem? (i := 119) (by decide +kernel), List.mem_of_getElem? (i := 503) (by decide +kernel), List.mem_of_getElem? (i := 504) (by decide +kernel)⟩
theorem lw_p14 : lw_okq (⟨"FaultTreeDesk", "needTerms", "()V"⟩, 9) := ⟨⟨by decide +kernel, by decide +kernel⟩, List.mem_of_getElem? (i := 21) (by decide +kernel), List.mem_of_getElem? (i := 515) (by decide +kernel), List.mem_of_getElem? (i := 516) (by decide +kernel)⟩
theorem lw_p15 : lw_okq (⟨"FaultTreeDesk$Terms", "walk", "(II)V"⟩, 5) := ⟨⟨by decide +kernel, by decide +kernel⟩, List.mem_of_getElem? (i := 135) (by decide +kernel), List.mem_of_getElem? (i := 523) (by decide +kernel), List.mem_of_getElem? (i := 524) (by decide +kernel)⟩
def lw_privs_1 : List (MethodName × Nat) := [(⟨"FaultTreeDesk", "needChance", "(I)V"⟩, 9), (⟨"java/lang/Throwable", "fillInStackTrace", "(I)Ljava/lang/Throwable;"⟩, 6), (⟨"FaultTreeDesk", "forgetAnswers", "()V"⟩, 9), (⟨"FaultTreeDesk", "needEvent", "(I)V"⟩, 9), (⟨"FaultTreeDesk", "needGate", "(I)V"⟩, 9), (⟨"FaultTreeDesk", "needTop", "()V"⟩, 9), (⟨"FaultTreeDesk", "freshenTruth", "()V"⟩, 9), (⟨"FaultTreeDesk$Truth", "fillEvent", "(II)V"⟩, 5), (⟨"FaultTreeDesk$Truth", "fillGates", "(LFaultTreeDesk$Gates;)V"⟩, 5), (⟨"FaultTreeDesk$Truth", "fillGate", "(LFaultTreeDesk$Gates;I)V"⟩, 5), (⟨"FaultTreeDesk$Truth", "listInputs", "(I)I"⟩, 5), (⟨"FaultTreeDesk$Truth", "oddWord", "(II)J"⟩, 5), (⟨"FaultTreeDesk$Truth", "atLeastWord", "(III)J"⟩, 5), (⟨"FaultTreeDesk$Diagram", "numberOf", "(III)I"⟩, 3), (⟨"FaultTreeDesk", "needTerms", "()V"⟩, 9), (⟨"FaultTreeDesk$Terms", "walk", "(II)V"⟩, 5)]
theorem lw_r1 : ∀ q ∈ lw_privs_1, lw_okq q := List.forall_mem_cons.mpr ⟨lw_p0, List.forall_mem_cons.mpr ⟨lw_p1, List.forall_mem_cons.mpr ⟨lw_p2, List.forall_mem_cons.mpr ⟨lw_p3, List.forall_mem_cons.mpr ⟨lw_p4, List.forall_mem_cons.mpr ⟨lw_p5, List.forall_mem_cons.mpr ⟨lw_p6, List.forall_mem_cons.mpr ⟨lw_p7, List.forall_mem_cons.mpr ⟨lw_p8, List.forall_mem_cons.mpr ⟨lw_p9, List.forall_mem_cons.mpr ⟨lw_p10, List.forall_mem_cons.mpr ⟨lw_p11, List.forall_mem_cons.mpr ⟨lw_p12, List.forall_mem_cons.mpr ⟨lw_p13, List.forall_mem_cons.mpr ⟨lw_p14, List.forall_mem_cons.mpr ⟨lw_p15, fun _ h => absurd h List.not_mem_nil⟩⟩⟩⟩⟩⟩⟩⟩⟩⟩⟩⟩⟩⟩⟩⟩
theorem lw_p16 : lw_okq (⟨"FaultTreeDesk$Terms", "collect", "(I)V"⟩, 5) := ⟨⟨by decide +kernel, by decide +kernel⟩, List.mem_of_getElem? (i := 135) (by decide +kernel), List.mem_of_getElem? (i := 527) (by decide +kernel), List.mem_of_getElem? (i := 528) (by decide +kernel)⟩
theorem lw_p17 : lw_okq (⟨"FaultTreeDesk$Terms", "allKeptOrOff", "(I)J"⟩, 5) := ⟨⟨by decide +kernel, by decide +kernel⟩, List.mem_of_getElem? (i := 135) (by decide +kernel), List.mem_of_getElem? (i := 531) (by decide +kernel), List.mem_of_getElem? (i := 532) (by decide +kernel)⟩
theorem lw_p18 : lw_okq (⟨"FaultTreeDesk$Terms", "primeSettings", "(II)J"⟩, 5) := ⟨⟨by decide +kernel, by decide +kernel⟩, List.mem_of_getElem? (i := 135) (by decide +kernel), List.mem_of_getElem? (i := 537) (by decide +kernel), List.mem_of_getElem? (i := 538) (by decide +kernel)⟩
theorem lw_p19 : lw_okq (⟨"FaultTreeDesk$Terms", "flipped", "([JII)J"⟩, 5) := ⟨⟨by decide +kernel, by decide +kernel⟩, List.mem_of_getElem? (i := 135) (by decide +kernel), List.mem_of_getElem? (i := 541) (by decide +kernel), List.mem_of_getElem? (i := 542) (by decide +kernel)⟩
theorem lw_p20 : lw_okq (⟨"FaultTreeDesk$Terms", "addAll", "(IIJ)V"⟩, 5) := ⟨⟨by decide +kernel, by decide +kernel⟩, List.mem_of_getElem? (i := 135) (by decide +kernel), List.mem_of_getElem? (i := 545) (by decide +kernel), List.mem_of_getElem? (i := 546) (by decide +kernel)⟩
theorem lw_p21 : lw_okq (⟨"FaultTreeDesk$Terms", "insert", "(I)V"⟩, 5) := ⟨⟨by decide +kernel, by decide +kernel⟩, List.mem_of_getElem? (i := 135) (by decide +kernel), List.mem_of_getElem? (i := 556) (by decide +kernel), List.mem_of_getElem? (i := 557) (by decide +kernel)⟩
theorem lw_p22 : lw_okq (⟨"FaultTreeDesk$Gates", "standsAlone", "(II)Z"⟩, 5) := ⟨⟨by decide +kernel, by decide +kernel⟩, List.mem_of_getElem? (i := 53) (by decide +kernel), List.mem_of_getElem? (i := 625) (by decide +kernel), List.mem_of_getElem? (i := 626) (by decide +kernel)⟩
theorem lw_p23 : lw_okq (⟨"FaultTreeDeskModel", "isEvent", "(I)Z"⟩, 19) := ⟨⟨by decide +kernel, by decide +kernel⟩, List.mem_of_getElem? (i := 629) (by decide +kernel), List.mem_of_getElem? (i := 706) (by decide +kernel), List.mem_of_getElem? (i := 707) (by decide +kernel)⟩
theorem lw_p24 : lw_okq (⟨"FaultTreeDeskModel", "isGate", "(I)Z"⟩, 19) := ⟨⟨by decide +kernel, by decide +kernel⟩, List.mem_of_getElem? (i := 629) (by decide +kernel), List.mem_of_getElem? (i := 722) (by decide +kernel), List.mem_of_getElem? (i := 723) (by decide +kernel)⟩
theorem lw_p25 : lw_okq (⟨"FaultTreeDeskModel", "hasChild", "(II)Z"⟩, 19) := ⟨⟨by decide +kernel, by decide +kernel⟩, List.mem_of_getElem? (i := 629) (by decide +kernel), List.mem_of_getElem? (i := 726) (by decide +kernel), List.mem_of_getElem? (i := 727) (by decide +kernel)⟩
theorem lw_p26 : lw_okq (⟨"FaultTreeDeskModel", "findBelow", "()V"⟩, 19) := ⟨⟨by decide +kernel, by decide +kernel⟩, List.mem_of_getElem? (i := 629) (by decide +kernel), List.mem_of_getElem? (i := 730) (by decide +kernel), List.mem_of_getElem? (i := 731) (by decide +kernel)⟩
theorem lw_p27 : lw_okq (⟨"FaultTreeDeskModel", "lacks", "(I)Z"⟩, 19) := ⟨⟨by decide +kernel, by decide +kernel⟩, List.mem_of_getElem? (i := 629) (by decide +kernel), List.mem_of_getElem? (i := 742) (by decide +kernel), List.mem_of_getElem? (i := 743) (by decide +kernel)⟩
theorem lw_p28 : lw_okq (⟨"FaultTreeDeskModel", "work", "()V"⟩, 19) := ⟨⟨by decide +kernel, by decide +kernel⟩, List.mem_of_getElem? (i := 629) (by decide +kernel), List.mem_of_getElem? (i := 746) (by decide +kernel), List.mem_of_getElem? (i := 747) (by decide +kernel)⟩
theorem lw_p29 : lw_okq (⟨"FaultTreeDeskModel", "sort", "()V"⟩, 19) := ⟨⟨by decide +kernel, by decide +kernel⟩, List.mem_of_getElem? (i := 629) (by decide +kernel), List.mem_of_getElem? (i := 750) (by decide +kernel), List.mem_of_getElem? (i := 751) (by decide +kernel)⟩
theorem lw_p30 : lw_okq (⟨"FaultTreeDeskModel", "isOn", "(II)Z"⟩, 19) := ⟨⟨by decide +kernel, by decide +kernel⟩, List.mem_of_getElem? (i := 629) (by decide +kernel), List.mem_of_getElem? (i := 754) (by decide +kernel), List.mem_of_getElem? (i := 755) (by decide +kernel)⟩
theorem lw_p31 : lw_okq (⟨"FaultTreeDeskModel", "sum", "()J"⟩, 19) := ⟨⟨by decide +kernel, by decide +kernel⟩, List.mem_of_getElem? (i := 629) (by decide +kernel), List.mem_of_getElem? (i := 762) (by decide +kernel), List.mem_of_getElem? (i := 763) (by decide +kernel)⟩
def lw_privs_2 : List (MethodName × Nat) := [(⟨"FaultTreeDesk$Terms", "collect", "(I)V"⟩, 5), (⟨"FaultTreeDesk$Terms", "allKeptOrOff", "(I)J"⟩, 5), (⟨"FaultTreeDesk$Terms", "primeSettings", "(II)J"⟩, 5), (⟨"FaultTreeDesk$Terms", "flipped", "([JII)J"⟩, 5), (⟨"FaultTreeDesk$Terms", "addAll", "(IIJ)V"⟩, 5), (⟨"FaultTreeDesk$Terms", "insert", "(I)V"⟩, 5), (⟨"FaultTreeDesk$Gates", "standsAlone", "(II)Z"⟩, 5), (⟨"FaultTreeDeskModel", "isEvent", "(I)Z"⟩, 19), (⟨"FaultTreeDeskModel", "isGate", "(I)Z"⟩, 19), (⟨"FaultTreeDeskModel", "hasChild", "(II)Z"⟩, 19), (⟨"FaultTreeDeskModel", "findBelow", "()V"⟩, 19), (⟨"FaultTreeDeskModel", "lacks", "(I)Z"⟩, 19), (⟨"FaultTreeDeskModel", "work", "()V"⟩, 19), (⟨"FaultTreeDeskModel", "sort", "()V"⟩, 19), (⟨"FaultTreeDeskModel", "isOn", "(II)Z"⟩, 19), (⟨"FaultTreeDeskModel", "sum", "()J"⟩, 19)]
theorem lw_r2 : ∀ q ∈ lw_privs_2, lw_okq q := List.forall_mem_cons.mpr ⟨lw_p16, List.forall_mem_cons.mpr ⟨lw_p17, List.forall_mem_cons.mpr ⟨lw_p18, List.forall_mem_cons.mpr ⟨lw_p19, List.forall_mem_cons.mpr ⟨lw_p20, List.forall_mem_cons.mpr ⟨lw_p21, List.forall_mem_cons.mpr ⟨lw_p22, List.forall_mem_cons.mpr ⟨lw_p23, List.forall_mem_cons.mpr ⟨lw_p24, List.forall_mem_cons.mpr ⟨lw_p25, List.forall_mem_cons.mpr ⟨lw_p26, List.forall_mem_cons.mpr ⟨lw_p27, List.forall_mem_cons.mpr ⟨lw_p28, List.forall_mem_cons.mpr ⟨lw_p29, List.forall_mem_cons.mpr ⟨lw_p30, List.forall_mem_cons.mpr ⟨lw_p31, fun _ h => absurd h List.not_mem_nil⟩⟩⟩⟩⟩⟩⟩⟩⟩⟩⟩⟩⟩⟩⟩⟩
theorem lw_p32 : lw_okq (⟨"FaultTreeDeskModel", "matters", "(II)Z"⟩, 19) := ⟨⟨by decide +kernel, by decide +kernel⟩, List.mem_of_getElem? (i := 629) (by decide +kernel), List.mem_of_getElem? (i := 779) (by decide +kernel), List.mem_of_getElem? (i := 780) (by decide +kernel)⟩
theorem lw_p33 : lw_okq (⟨"FaultTreeDeskModel", "alike", "(III)Z"⟩, 19) := ⟨⟨by decide +kernel, by decide +kernel⟩, List.mem_of_getElem? (i := 629) (by decide +kernel), List.mem_of_getElem? (i := 783) (by decide +kernel), List.mem_of_getElem? (i := 784) (by decide +kernel)⟩
theorem lw_p34 : lw_okq (⟨"FaultTreeDeskModel", "fails", "(I)Z"⟩, 19) := ⟨⟨by decide +kernel, by decide +kernel⟩, List.mem_of_getElem? (i := 629) (by decide +kernel), List.mem_of_getElem? (i := 791) (by decide +kernel), List.mem_of_getElem? (i := 792) (by decide +kernel)⟩
theorem lw_p35 : lw_okq (⟨"FaultTreeDeskModel", "findPrimes", "()Z"⟩, 19) := ⟨⟨by decide +kernel, by decide +kernel⟩, List.mem_of_getElem? (i := 629) (by decide +kernel), List.mem_of_getElem? (i := 795) (by decide +kernel), List.mem_of_getElem? (i := 796) (by decide +kernel)⟩
theorem lw_p36 : lw_okq (⟨"FaultTreeDeskModel", "settingOf", "(I)I"⟩, 19) := ⟨⟨by decide +kernel, by decide +kernel⟩, List.mem_of_getElem? (i := 629) (by decide +kernel), List.mem_of_getElem? (i := 802) (by decide +kernel), List.mem_of_getElem? (i := 803) (by decide +kernel)⟩
theorem lw_p37 : lw_okq (⟨"FaultTreeDeskModel", "isCause", "(I)Z"⟩, 19) := ⟨⟨by decide +kernel, by decide +kernel⟩, List.mem_of_getElem? (i := 629) (by decide +kernel), List.mem_of_getElem? (i := 806) (by decide +kernel), List.mem_of_getElem? (i := 807) (by decide +kernel)⟩
theorem lw_p38 : lw_okq (⟨"FaultTreeDeskModel", "isPrime", "(I)Z"⟩, 19) := ⟨⟨by decide +kernel, by decide +kernel⟩, List.mem_of_getElem? (i := 629) (by decide +kernel), List.mem_of_getElem? (i := 811) (by decide +kernel), List.mem_of_getElem? (i := 812) (by decide +kernel)⟩
theorem lw_p39 : lw_okq (⟨"FaultTreeDeskModel", "eventsOf", "(II)I"⟩, 19) := ⟨⟨by decide +kernel, by decide +kernel⟩, List.mem_of_getElem? (i := 629) (by decide +kernel), List.mem_of_getElem? (i := 815) (by decide +kernel), List.mem_of_getElem? (i := 816) (by decide +kernel)⟩
theorem lw_p40 : lw_okq (⟨"FaultTreeDeskModel", "keep", "(II)V"⟩, 19) := ⟨⟨by decide +kernel, by decide +kernel⟩, List.mem_of_getElem? (i := 629) (by decide +kernel), List.mem_of_getElem? (i := 819) (by decide +kernel), List.mem_of_getElem? (i := 820) (by decide +kernel)⟩
theorem lw_p41 : lw_okq (⟨"FaultTreeDeskModel", "isUnder", "(II)Z"⟩, 19) := ⟨⟨by decide +kernel, by decide +kernel⟩, List.mem_of_getElem? (i := 629) (by decide +kernel), List.mem_of_getElem? (i := 841) (by decide +kernel), List.mem_of_getElem? (i := 842) (by decide +kernel)⟩
def lw_privs_3 : List (MethodName × Nat) := [(⟨"FaultTreeDeskModel", "matters", "(II)Z"⟩, 19), (⟨"FaultTreeDeskModel", "alike", "(III)Z"⟩, 19), (⟨"FaultTreeDeskModel", "fails", "(I)Z"⟩, 19), (⟨"FaultTreeDeskModel", "findPrimes", "()Z"⟩, 19), (⟨"FaultTreeDeskModel", "settingOf", "(I)I"⟩, 19), (⟨"FaultTreeDeskModel", "isCause", "(I)Z"⟩, 19), (⟨"FaultTreeDeskModel", "isPrime", "(I)Z"⟩, 19), (⟨"FaultTreeDeskModel", "eventsOf", "(II)I"⟩, 19), (⟨"FaultTreeDeskModel", "keep", "(II)V"⟩, 19), (⟨"FaultTreeDeskModel", "isUnder", "(II)Z"⟩, 19)]
theorem lw_r3 : ∀ q ∈ lw_privs_3, lw_okq q := List.forall_mem_cons.mpr ⟨lw_p32, List.forall_mem_cons.mpr ⟨lw_p33, List.forall_mem_cons.mpr ⟨lw_p34, List.forall_mem_cons.mpr ⟨lw_p35, List.forall_mem_cons.mpr ⟨lw_p36, List.forall_mem_cons.mpr ⟨lw_p37, List.forall_mem_cons.mpr ⟨lw_p38, List.forall_mem_cons.mpr ⟨lw_p39, List.forall_mem_cons.mpr ⟨lw_p40, List.forall_mem_cons.mpr ⟨lw_p41, fun _ h => absurd h List.not_mem_nil⟩⟩⟩⟩⟩⟩⟩⟩⟩⟩
def lw_privs : List (MethodName × Nat) := lw_privs_1 ++ (lw_privs_2 ++ (lw_privs_3))
def lw_tbl : List Cond := k2_sels lw_privs ++ tables_1
theorem lw_privs_ok : ∀ q ∈ lw_privs, lw_okq q := by
  show ∀ q ∈ lw_privs_1 ++ (lw_privs_2 ++ (lw_privs_3)), lw_okq q
  exact List.forall_mem_append.mpr ⟨lw_r1, List.forall_mem_append.mpr ⟨lw_r2, lw_r3⟩⟩
end
section
/-! ===== BEGIN words of one list among another's, by their places ===== -/
theorem goodIn_r {big : List Cond} (ws : List Cond) (ps : List Nat) (hp : ws = ps.filterMap (fun i => big[i]?)) (h : ws.all goodWord = true) : GoodIn big ws := by
  intro w hw
  have h1 := List.all_eq_true.mp h w hw
  rw [hp] at hw
  obtain ⟨i, -, hi⟩ := List.mem_filterMap.mp hw
  have hm : w ∈ big := by first | exact List.mem_of_getElem? hi | exact List.getElem?_mem hi
  exact ⟨hm, good_of_word h1⟩
theorem goodIn_app {big a b : List Cond} (ha : GoodIn big a) (hb : GoodIn big b) : GoodIn big (a ++ b) := fun w h => (List.mem_append.mp h).elim (ha w) (hb w)
theorem goodIn_ca {big a b : List Cond} {c : Cond} (ha : GoodIn big (c :: a)) (hb : GoodIn big b) : GoodIn big (c :: (a ++ b)) := fun w h => (List.mem_cons.mp h).elim (fun e => ha w (List.mem_cons.mpr (Or.inl e))) (fun h => (List.mem_append.mp h).elim (fun h => ha w (List.mem_cons.mpr (Or.inr h))) (hb w))
theorem goodIn_sub {big ws : List Cond} (hm : ∀ w ∈ ws, w ∈ big) (h : ws.all goodWord = true) : GoodIn big ws := fun w hw => ⟨hm w hw, good_of_word (List.all_eq_true.mp h w hw)⟩
/-! ===== END ===== -/

/-! ===== BEGIN new T[n][m]: the outer array a place, the inner ones among the pooled ===== -/
/-- f, but v at every address of l -/
def vr_up {α : Type} (f : Nat → α) (l : List Nat) (v : α) : Nat → α := fun a => if a ∈ l then v else f a
theorem vr_up_in {α : Type} {f : Nat → α} {l : List Nat} {v : α} {a : Nat} (h : a ∈ l) : vr_up f l v a = v := if_pos h
theorem vr_up_ne {α : Type} {f : Nat → α} {l : List Nat} {v : α} {a : Nat} (h : a ∉ l) : vr_up f l v a = f a := if_neg h
theorem vr_rows {L l : List Nat} {f : Nat → va_E} {e : va_E} (h : ∀ a, a ∈ l → a ∉ L) : va_pl L f ++ l.map (fun a => (a, e)) = va_pl (L ++ l) (vr_up f l e) := by
  unfold va_pl
  rw [List.map_append]
  congr 1
  · apply List.map_congr_left
    intro a ha
    rw [vr_up_ne (fun q => h a q ha)]
  · apply List.map_congr_left
    intro a ha
    rw [vr_up_in ha]
theorem vr_lay {X rows : va_W} {x : Nat × va_E} {pl : va_W} {D : va_G} {cl : List vw_C} {H : Heap} (hP : va_P D cl (((X ++ pl) ++ [x]) ++ rows) H) : va_P D cl ((X ++ [x]) ++ (pl ++ rows)) H := by
  rw [List.append_assoc (X ++ pl)] at hP
  have h := va_P.swap hP
  rw [← List.append_assoc X] at h
  have h2 := va_P.swap h
  rw [List.append_assoc (X ++ [x])] at h2
  exact h2
theorem vr_layD {X rows : va_W} {x : Nat × va_E} {pl : va_W} {A : Nat → Prop} (hD : va_D A (((X ++ pl) ++ [x]) ++ rows)) : va_D A ((X ++ [x]) ++ (pl ++ rows)) := by
  rw [List.append_assoc (X ++ pl)] at hD
  have h := va_D.swap hD
  rw [← List.append_assoc X] at h
  have h2 := va_D.swap h
  rw [List.append_assoc (X ++ [x])] at h2
  exact h2
theorem vr_outer (c : ClassId) (N h0 : Nat) : ∀ i : Nat, Jvm.Free.Multi.outerC c N h0 i = arrV c N (fun j => va_rf (if j < i then some (h0 + 1 + j) else none))
  | 0 => by
    show ({ cls := c, slots := Array.replicate N .null, vm := .none } : Cell) = _
    rw [arrV_new]
    refine congrArg (arrV c N) (funext fun j => ?_)
    simp [va_rf]
  | i + 1 => by
    show (Jvm.Free.Multi.outerC c N h0 i).setSlot i (.ref (h0 + 1 + i)) = _
    rw [vr_outer c N h0 i, arrV_store]
    refine congrArg (arrV c N) (funext fun j => ?_)
    by_cases e : j = i
    · subst e
      simp [updV, va_rf]
    · by_cases h : j < i
      · simp [updV, e, h, Nat.lt_succ_of_lt h]
      · simp [updV, e, h, show ¬ j < i + 1 by omega]
/-- the class of the arrays of arrays of t is there -/
def va_AOA (t : FieldType) (U : State) : Prop := (Cond.arrayOver (.array t)).before #[] U = true
theorem va_AOA.use {t : FieldType} {A : Array Value} {U : State} (h : va_AOA t U) : (Cond.arrayOver (.array t)).before A U = true := h
section VGM
variable {p : Program} {l : Launch} {e : Env} {R : Room} {s : State} {m : MethodId} {args : Array Value} {below : List Frame} {meth : Method} {c : Code} {H : Heap} {locs : List Loc} {cells slots : Nat} {Q : State → Prop}
variable {cc : ByteArray} {pc : Nat} {ls : Array Slot} {rest : List Value} {D : va_G} {cl : List vw_C} {A : Nat → Prop} {a : Nat} {tys : List (ClassId × FieldType)} {ws : va_W} {H0 : Heap}
theorem va_mna {X : va_W} {L : List Nat} {f : Nat → va_E} {cc : ByteArray} (hexec : p.tables.exec = Jvm.exec) (hb : c.code = cc) {own : String} {index : Nat} {ty : FieldType} {cy : ClassId} (hown : s.vm.findClass own = some m.cls) (hclink : (Cond.classLink own index ("[" ++ (FieldType.array ty).toString)).before args s = true) (hover : va_AOA ty s) (harr : (Cond.arrayClass ty).before args s = true) (hcy : s.vm.findClass (FieldType.array ty).toString = some cy)
    (hK : va_K D cl tys s) (hP : va_P D cl (X ++ va_pl L f) H) (hD : va_D A (X ++ va_pl L f)) (hS : va_S A H0 H locs) (hA : ∀ q, H0.size ≤ q → A q) {n k : Int32} {N' K' : Nat} {z : vp_A} (hn : ¬ n < 0) (hk : ¬ k < 0) (hN : n.toNatClampNeg = N') (hM : k.toNatClampNeg = K')
    (hb1 : N' * 4 ≤ 536870912) (hb2 : K' * componentBytes ty ≤ 536870912) (hb3 : K' ≤ 536870912) (hdf : fits ty (defaultValue ty) = true) (hdd : (defaultValue ty).isDefault = true) (hcells : cells + (1 + N') ≤ R.cells) (hslots : slots + (N' + N' * K') ≤ R.slots) (hz : ∀ c : ClassId, Jvm.Free.Multi.innerC c K' (defaultValue ty) = vp_cell c z) (hdg : decode cc pc = .ok (.multianewarray index 2, 4))
    (kk : ∀ (q : Nat) (r : Nat → Nat) (cA : ClassId) (H1 : Heap), (∀ i j : Nat, i < N' → j < N' → r i = r j → i = j) → (∀ i : Nat, i < N' → r i ∉ L) → va_K D cl (tys ++ [(cA, .array ty)]) s →
      va_P D cl ((X ++ [(q, .inl (cA, N', .inr (.inr (.inr (.inr (fun i => if i < N' then some (r i) else none))))))]) ++ va_pl (L ++ (List.range N').map r) (vr_up f ((List.range N').map r) (.inl (cy, z)))) H1 → va_D A ((X ++ [(q, .inl (cA, N', .inr (.inr (.inr (.inr (fun i => if i < N' then some (r i) else none))))))]) ++ va_pl (L ++ (List.range N').map r) (vr_up f ((List.range N').map r) (.inl (cy, z)))) → va_S A H0 H1 locs →
      W p l e R s m args below meth c H1 locs (cells + 1 + N') (slots + N' + N' * K') Q (F0 m (pc + 4) ls (.ref q :: rest))) : W p l e R s m args below meth c H locs cells slots Q (F0 m pc ls (.int k :: .int n :: rest)) := by
  subst hN
  subst hM
  intro T hT Xs
  obtain ⟨vm₁, cA, comp, -, fA, fC, hO, -, X', step⟩ := Xs.multianewarray2F hexec hown hclink (va_AOA.use hover) harr (g := F0 m pc ls (.int k :: .int n :: rest)) rfl (by rw [hb]; exact hdg) rfl hn hk hb1 hb2 hb3 hdf hdd hcells hslots
  have ec : some cy = some comp := hcy.symm.trans fC
  cases ec
  generalize hF : Jvm.Free.Multi.fill (T.setVm vm₁) cA cy n.toNatClampNeg k.toNatClampNeg (defaultValue ty) n.toNatClampNeg = F at X' step
  have hTh : (T.setVm vm₁).heap = H := hT
  obtain ⟨f1, f2, -, -⟩ := Jvm.Free.Multi.fill_facts (T.setVm vm₁) cA cy n.toNatClampNeg k.toNatClampNeg (defaultValue ty) n.toNatClampNeg
  rw [hF, hTh] at f1 f2
  have hold : ∀ x : Nat, x < H.size → F.heap[x]? = H[x]? := fun x hx => by
    have := Jvm.Free.Multi.fill_old (T.setVm vm₁) cA cy n.toNatClampNeg k.toNatClampNeg (defaultValue ty) (a := x) (by rw [hTh]; exact hx) n.toNatClampNeg
    rw [hF, hTh] at this
    exact this
  have hrow : ∀ j : Nat, j < n.toNatClampNeg → F.heap[H.size + 1 + j]? = some (vp_cell cy z) := fun j hj => by
    have := Jvm.Free.Multi.fill_inner (T.setVm vm₁) cA cy n.toNatClampNeg k.toNatClampNeg (defaultValue ty) n.toNatClampNeg j hj
    rw [hF, hTh, hz] at this
    exact this
  have hout : Jvm.Free.Multi.outerC cA n.toNatClampNeg H.size n.toNatClampNeg = vp_cell cA (n.toNatClampNeg, .inr (.inr (.inr (.inr (fun i => if i < n.toNatClampNeg then some (H.size + 1 + i) else none))))) := by
    rw [vp_cell_q]
    exact vr_outer cA n.toNatClampNeg H.size n.toNatClampNeg
  rw [hout] at f2
  have hlt : ∀ a, a ∈ L → a < H.size := fun a ha => by
    obtain ⟨k9, hk9⟩ := va_pl_get (X := X) (f := f) ha
    exact (hP k9 _ hk9).lt
  have hnl : ∀ i : Nat, i < n.toNatClampNeg → H.size + 1 + i ∉ L := fun i _ h => by
    have := hlt _ h
    omega
  have hnm : ∀ a, a ∈ (List.range n.toNatClampNeg).map (fun i => H.size + 1 + i) → a ∉ L := fun a ha h => by
    obtain ⟨i, -, rfl⟩ := List.mem_map.mp ha
    have := hlt _ h
    omega
  have hP0 : va_P D cl (X ++ va_pl L f) F.heap := hP.kept (fun k9 x hx => hold x.1 ((hP k9 x hx).lt))
  have hP1 : va_P D cl ((X ++ va_pl L f) ++ [(H.size, .inl (cA, n.toNatClampNeg, .inr (.inr (.inr (.inr (fun i => if i < n.toNatClampNeg then some (H.size + 1 + i) else none))))))]) F.heap := hP0.app (fun k9 x hx => by
    have h0 : k9 < 1 := (List.getElem?_eq_some_iff.mp hx).1
    rw [show k9 = 0 by omega] at hx
    cases hx
    exact f2)
  have hP2 : va_P D cl (((X ++ va_pl L f) ++ [(H.size, .inl (cA, n.toNatClampNeg, .inr (.inr (.inr (.inr (fun i => if i < n.toNatClampNeg then some (H.size + 1 + i) else none))))))]) ++ ((List.range n.toNatClampNeg).map (fun i => H.size + 1 + i)).map (fun a => (a, .inl (cy, z)))) F.heap := hP1.app (fun k9 x hx => by
    obtain ⟨a, ha, rfl⟩ := List.mem_map.mp (List.mem_of_getElem? hx)
    obtain ⟨i, hi, rfl⟩ := List.mem_map.mp ha
    exact hrow i (List.mem_range.mp hi))
  have hD2 : va_D A (((X ++ va_pl L f) ++ [(H.size, .inl (cA, n.toNatClampNeg, .inr (.inr (.inr (.inr (fun i => if i < n.toNatClampNeg then some (H.size + 1 + i) else none))))))]) ++ ((List.range n.toNatClampNeg).map (fun i => H.size + 1 + i)).map (fun a => (a, .inl (cy, z)))) := by
    have hD1 := hD.push (e := .inl (cA, n.toNatClampNeg, .inr (.inr (.inr (.inr (fun i => if i < n.toNatClampNeg then some (H.size + 1 + i) else none)))))) hP rfl (hA _ hS.1)
    generalize hW1 : (X ++ va_pl L f) ++ [(H.size, .inl (cA, n.toNatClampNeg, .inr (.inr (.inr (.inr (fun i => if i < n.toNatClampNeg then some (H.size + 1 + i) else none))))))] = W1 at hD1 hP1 ⊢
    have hle : ∀ (k9 : Nat) (x : Nat × va_E), W1[k9]? = some x → x.1 ≤ H.size := fun k9 x hx => by
      rw [← hW1] at hx
      by_cases hl : k9 < (X ++ va_pl L f).length
      · rw [List.getElem?_append_left hl] at hx
        exact Nat.le_of_lt ((hP k9 x hx).lt)
      · rw [List.getElem?_append_right (by omega)] at hx
        have h0 : k9 - (X ++ va_pl L f).length < 1 := (List.getElem?_eq_some_iff.mp hx).1
        rw [show k9 - (X ++ va_pl L f).length = 0 by omega] at hx
        cases hx
        exact Nat.le_refl _
    have hr : ∀ (k9 : Nat) (x : Nat × va_E), (((List.range n.toNatClampNeg).map (fun i => H.size + 1 + i)).map (fun a => ((a, .inl (cy, z)) : Nat × va_E)))[k9]? = some x → x.1 = H.size + 1 + k9 := fun k9 x hx => by
      rw [List.getElem?_map, List.getElem?_map] at hx
      by_cases h9 : k9 < n.toNatClampNeg
      · rw [List.getElem?_range h9] at hx
        cases hx
        rfl
      · have hn0 : (List.range n.toNatClampNeg)[k9]? = none := List.getElem?_eq_none (by rw [List.length_range]; omega)
        rw [hn0] at hx
        cases hx
    refine ⟨fun i j x y hi hj hxy => ?_, fun k9 x hx => ?_⟩
    · by_cases h1 : i < W1.length <;> by_cases h2 : j < W1.length
      · rw [List.getElem?_append_left h1] at hi
        rw [List.getElem?_append_left h2] at hj
        exact hD1.1 i j x y hi hj hxy
      · rw [List.getElem?_append_left h1] at hi
        rw [List.getElem?_append_right (by omega)] at hj
        have := hle _ _ hi
        have := hr _ _ hj
        omega
      · rw [List.getElem?_append_right (by omega)] at hi
        rw [List.getElem?_append_left h2] at hj
        have := hle _ _ hj
        have := hr _ _ hi
        omega
      · rw [List.getElem?_append_right (by omega)] at hi hj
        have := hr _ _ hi
        have := hr _ _ hj
        omega
    · by_cases h1 : k9 < W1.length
      · rw [List.getElem?_append_left h1] at hx
        exact hD1.2 k9 x hx
      · rw [List.getElem?_append_right (by omega)] at hx
        have := hr _ _ hx
        exact hA _ (by have := hS.1; omega)
  have hAr : ArrOfT s cA (.array ty) := fun N9 z9 => by
    obtain ⟨-, k9, hk9, cm9, hkk9⟩ := (hO 0 0 0).1
    exact ⟨(fun q hq => by cases hq), k9, hk9, cm9, hkk9⟩
  have hK2 : va_K D cl (tys ++ [(cA, .array ty)]) s := ⟨hK.1, fun k9 x hx => by
    by_cases hl : k9 < tys.length
    · rw [List.getElem?_append_left hl] at hx
      exact hK.2 k9 x hx
    · rw [List.getElem?_append_right (by omega)] at hx
      have h0 : k9 - tys.length < 1 := (List.getElem?_eq_some_iff.mp hx).1
      rw [show k9 - tys.length = 0 by omega] at hx
      cases hx
      exact ⟨hAr, fA⟩⟩
  obtain ⟨t, a1, b1⟩ := kk H.size (fun i => H.size + 1 + i) cA F.heap (fun i j _ _ h => by have h9 : H.size + 1 + i = H.size + 1 + j := h; omega) hnl hK2 (by rw [← vr_rows hnm]; exact vr_lay hP2) (by rw [← vr_rows hnm]; exact vr_layD hD2) ⟨by rw [f1]; have := hS.1; omega, fun x h1 h2 => (hold x (Nat.lt_of_lt_of_le h1 hS.1)).trans (hS.2.1 x h1 h2), hS.2.2⟩ F rfl X'
  refine ⟨t, step t ?_, b1⟩
  have e : T.heap.size = H.size := by rw [hT]
  rw [e]
  exact a1
end VGM
/-! ===== END ===== -/

/-! ===== BEGIN exceptions that leave a method, and their catching by the caller (launches without stack traces) ===== -/
section VXA
/-! The laws vx_back, vx_callV, vx_callS, vx_callSW, vx_throw0, vx_throwS follow proofs of the library, with one case more: JvmDerived/Free/Laws.lean (Back.of_free), Shelf42/LK1.lean (callV, callS), Shelf/KitTraced.lean (throwNew0V, throwNewS). -/
/-- where a method has thrown q: the class by its name, the cell, what was written, the world -/
def vx_T (XC : String → State → State → Prop) (st : State) (q : Addr) (t : State) (mc ms : Nat) (free : Addr → Prop) : Prop :=
  ∃ (E : String) (ce : Cell) (L : List Loc), XC E st t ∧ t.heap[q]? = some ce ∧ ce.vm = .none ∧ st.vm.findClass E = some ce.cls ∧ st.WarmedH t.vm ∧ st.sameButNew ({ t with vm := st.vm } : State) L mc ms ∧ ∀ z ∈ L, free z.base
def vx_Q (Qc : Array Value → State → Outcome → State → Prop) (XC : String → State → State → Prop) (mc ms : Nat) (free : Addr → Prop) : Array Value → State → Outcome → State → Prop := fun a st o t =>
  (Qc a st o t ∧ ∃ L, FrameEnd st o t L mc ms ∧ ∀ q ∈ L, free q.base) ∨ ∃ q, o = .threw q ∧ vx_T XC st q t mc ms free
/-- a callee that returns or throws -/
def vx_Met (l : Launch) (y : MethodName) (ws : List Cond) (rm : Room) (Pc : Array Value → State → Prop) (Qc : Array Value → State → Outcome → State → Prop) (XC : String → State → State → Prop) (mc ms : Nat) (free : Addr → Prop) : Prop :=
  MetFree l y (headSpec ws rm) Pc (fun _ _ _ _ _ => True) (vx_Q Qc XC mc ms free)
def vx_Post (XC : String → State → State → Prop) (mc ms : Nat) (free : Addr → Prop) : Pt → Array Value → Addr → Pt → Prop := fun A a q B =>
  ∃ (g : JFrame) (mk : MethodId) (t : State) (L : List Loc) (E : String) (ce : Cell), B.U.heap = t.heap ∧ B.U.vm = t.vm ∧ XC E (A.U.calling g mk a) t ∧ t.heap[q]? = some ce ∧ ce.vm = .none ∧ A.U.vm.findClass E = some ce.cls ∧ B.locs = A.locs ++ L ∧ (∀ z ∈ L, free z.base) ∧ B.cells = A.cells + mc ∧ B.slots = A.slots + ms
def vx_Back (l : Launch) (R : Room) (p : Program) (e : Env) (below : List Frame) (s : State) (sargs : Array Value) (y : MethodName) (len W9 : Nat)
    (Pre : Pt → Array Value → Prop) (Post : Pt → Array Value → Option Value → Pt → Prop) (PostX : Pt → Array Value → Addr → Pt → Prop) : Prop :=
  ∀ (m : MethodId) (meth : Method) (c : Code) (A : Pt) (g : JFrame) (ig : Instr) (mk : MethodId) (a : Array Value),
    Stand p l e R s m sargs below meth c A.U A.locs A.cells A.slots → g.method = m → g.locals.size = c.maxLocals → decode c.code g.pc = .ok (ig, len) →
    2 * g.monitorRoom + (g.stack.map fun v => v.category).sum ≤ W9 → A.U.methodNamed? y = some mk → Pre A a →
    (∃ (v : Option Value) (B : Pt), Stand p l e R s m sargs below meth c B.U B.locs B.cells B.slots ∧ Post A a v B ∧
      Steps p.tables e below (doInvoke e (A.U.setTop g) [] mk a).1 (B.U.setTop { g with pc := g.pc + len, stack := v.toList ++ g.stack })) ∨
    (∃ (q : Addr) (B : Pt), Stand p l e R s m sargs below meth c B.U B.locs B.cells B.slots ∧ PostX A a q B ∧
      Steps p.tables e below (doInvoke e (A.U.setTop g) [] mk a).1 ((B.U.setTop g).pushFrame (.throwing q)))
section Payer
variable {l : Launch} {R : Room} {p : Program} {e : Env} {below : List Frame} {s : State} {sargs : Array Value} {y : MethodName} {len W9 : Nat}
theorem vx_back {ws : List Cond} {rm : Room} {Pc : Array Value → State → Prop} {Qc : Array Value → State → Outcome → State → Prop} {XC : String → State → State → Prop} {mc ms : Nat} {free : Addr → Prop} {bytes : ByteArray} {maxL : Nat} {ret : Option FieldType}
    (hM : vx_Met l y ws rm Pc Qc XC mc ms free) (hblind : FrameBlind Pc) (hrc : rm.cells = mc) (hrs : rm.slots = ms)
    (hframes : rm.frames + 1 ≤ R.frames) (hlocals : W9 + (maxL + 11) + rm.locals ≤ R.locals)
    (hws : ∀ w ∈ ws, ∀ a' U, s.WarmedH U.vm → w.before a' U = true) (hcode : Cond.code y bytes maxL ret ∈ ws) (hinit : ∀ a' U, s.WarmedH U.vm → (Cond.initialized y.cls).before a' U = true) :
    vx_Back l R p e below s sargs y len W9 (PreOf R mc ms Pc) (PostOf Qc mc ms free) (vx_Post XC mc ms free) := by
  intro m meth c A g ig mk a X hg hsize hdg hW hn hp
  have h1 : (headSpec ws rm).pre.before a A.U = true := atoms_intro fun w hw => hws w hw _ _ X.warmed
  have h2 : (Cond.code y bytes maxL ret).before a A.U = true := hws _ hcode _ _ X.warmed
  have h3 : (Cond.initialized y.cls).before a A.U = true := hinit _ _ X.warmed
  have h4 : A.cells + (headSpec ws rm).room.cells ≤ R.cells := by rw [show (headSpec ws rm).room.cells = mc from hrc]; exact hp.1
  have h5 : A.slots + (headSpec ws rm).room.slots ≤ R.slots := by rw [show (headSpec ws rm).room.slots = ms from hrs]; exact hp.2.1
  have hPc : Pc a (A.U.calling g mk a) := hblind _ _ _ _ hp.2.2
  obtain ⟨U, Ls, c0, s0⟩ := A
  dsimp only [Pt.U, Pt.locs, Pt.cells, Pt.slots] at h1 h2 h3 h4 h5 X hn hPc ⊢
  obtain ⟨methY, cY, hmY, hcY, -, hlY, -, -, -, -⟩ := Cond.code_spec hn h2
  obtain ⟨kY, hkY, -⟩ := className_of_methodNamed hn
  have hinitY : kY.init = .initialized := Cond.initialized_spec (findClass_of_methodNamed hn) hkY h3
  have h : At U g.method c below := by rw [hg]; exact X.here
  have hlocals9 : W9 + (maxL + 11) + (headSpec ws rm).room.locals ≤ R.locals := hlocals
  have happ : (headSpec ws rm).appliesLoose y e.platform (U.calling g mk a) = true :=
    Spec.appliesLoose_calling (g := g) h hdg hn hkY hinitY
      (X.room_calling (g := g) (R' := (headSpec ws rm).room) hsize hmY hcY hframes (by rw [hlY]; omega) h4 h5) h1
  obtain ⟨mid, hmid⟩ := h.above
  have hfr : (U.setTop g).frames = (.java g :: mid) ++ below := by rw [State.frames_setTop' g h.top, hmid]; rfl
  obtain ⟨o, s₂, hsteps, -, hend, hq⟩ := Steps.callFree hM p X.admits X.cas X.clock (acts := []) hfr happ hPc trivial
  have hq' : vx_Q Qc XC mc ms free a (U.calling g mk a) o s₂ := hq
  rw [State.frames_setTop' g h.top] at hend
  obtain ⟨g₀, hg0⟩ := Option.isSome_iff_exists.mp h.top
  obtain ⟨r, hr⟩ := State.topJava?_eq_some.mp hg0
  have hr' : (({ U with heap := s₂.heap, slotsUsed := s₂.slotsUsed } : State).setVm s₂.vm).frames = .java g₀ :: r := hr
  rcases hq' with ⟨hqc, L, hfe, hL⟩ | ⟨q, rfl, E, ce, L, hx, hce, hcv, hcl, hW₂, hsm, hL⟩
  · obtain ⟨⟨v, rfl⟩, hW₂, e2, q2, q3, q4, q5, q6⟩ := id hfe
    have e3 : s₂ = ({ (U.calling g mk a).setFrames s₂.frames with heap := s₂.heap, slotsUsed := s₂.slotsUsed } : State).setVm s₂.vm := by
      have : s₂ = ({ s₂ with vm := (U.calling g mk a).vm } : State).setVm s₂.vm := rfl
      rw [e2] at this
      exact this
    obtain ⟨c₂, i₂, len₂, hc₂, hd₂, hf₂⟩ := hend
    have hW' : U.WarmedH s₂.vm := hW₂
    have hcc : c₂ = c := by
      have h1 : s₂.code? g.method = U.code? g.method := by
        rw [State.code?_eq, State.code?_eq, hW'.alike.method?]
      exact Option.some.inj (hc₂.symm.trans (h1.trans h.code))
    subst hcc
    have hlen : len₂ = len := by rw [hdg] at hd₂; cases hd₂; rfl
    subst hlen
    have hs₂ : s₂ = (({ U with heap := s₂.heap, slotsUsed := s₂.slotsUsed } : State).setVm s₂.vm).setTop { g with pc := g.pc + len₂, stack := v.toList ++ g.stack } := by
      refine e3.trans ?_
      rw [hf₂, State.calling_eq h.top, State.setFrames_setFrames, State.setTop_of_frames _ hr', hr]
      rfl
    have hsame : U.sameButNew ({ U with heap := s₂.heap, slotsUsed := s₂.slotsUsed } : State) L mc ms := by
      refine ⟨?_, q2, q3, q4, q5, q6⟩
      obtain ⟨t, ht, -⟩ := State.frames_cons hr
      show ({ U with heap := s₂.heap, slotsUsed := s₂.slotsUsed } : State) = { U.setFrames U.frames with heap := s₂.heap, slotsUsed := s₂.slotsUsed }
      rw [State.setFrames_self ht]
    subst hg
    refine Or.inl ⟨v, ⟨(({ U with heap := s₂.heap, slotsUsed := s₂.slotsUsed } : State).setVm s₂.vm), Ls ++ L, c0 + mc, s0 + ms⟩,
      ⟨X.admits, X.cas, X.clock, X.frames, X.room, X.hears, X.method, X.code, (X.here.setHeapUsed s₂.heap s₂.slotsUsed).setVm hW'.alike, X.tail, State.WarmedH.trans X.warmed hW', X.limits, X.bytes, X.same.trans (hsame.setVm s.vm)⟩,
      ⟨g, mk, s₂, L, rfl, rfl, hqc, rfl, hL, rfl, rfl⟩, ?_⟩
    show Steps p.tables e below _ ((({ U with heap := s₂.heap, slotsUsed := s₂.slotsUsed } : State).setVm s₂.vm).setTop { g with pc := g.pc + len₂, stack := v.toList ++ g.stack })
    rw [← hs₂]
    exact hsteps
  · obtain ⟨e2, q2, q3, q4, q5, q6⟩ := id hsm
    have e3 : s₂ = ({ (U.calling g mk a).setFrames s₂.frames with heap := s₂.heap, slotsUsed := s₂.slotsUsed } : State).setVm s₂.vm := by
      have : s₂ = ({ s₂ with vm := (U.calling g mk a).vm } : State).setVm s₂.vm := rfl
      rw [e2] at this
      exact this
    have hf₂ : s₂.frames = .throwing q :: .java g :: U.frames.tail := hend
    have hW' : U.WarmedH s₂.vm := hW₂
    have hs₂ : s₂ = ((({ U with heap := s₂.heap, slotsUsed := s₂.slotsUsed } : State).setVm s₂.vm).setTop g).pushFrame (.throwing q) := by
      refine e3.trans ?_
      rw [hf₂, State.calling_eq h.top, State.setFrames_setFrames, State.pushFrame, State.frames_setTop _ hr', State.setTop_of_frames _ hr', State.setFrames_setFrames, hr]
      rfl
    have hsame : U.sameButNew ({ U with heap := s₂.heap, slotsUsed := s₂.slotsUsed } : State) L mc ms := by
      refine ⟨?_, q2, q3, q4, q5, q6⟩
      obtain ⟨t, ht, -⟩ := State.frames_cons hr
      show ({ U with heap := s₂.heap, slotsUsed := s₂.slotsUsed } : State) = { U.setFrames U.frames with heap := s₂.heap, slotsUsed := s₂.slotsUsed }
      rw [State.setFrames_self ht]
    subst hg
    refine Or.inr ⟨q, ⟨(({ U with heap := s₂.heap, slotsUsed := s₂.slotsUsed } : State).setVm s₂.vm), Ls ++ L, c0 + mc, s0 + ms⟩,
      ⟨X.admits, X.cas, X.clock, X.frames, X.room, X.hears, X.method, X.code, (X.here.setHeapUsed s₂.heap s₂.slotsUsed).setVm hW'.alike, X.tail, State.WarmedH.trans X.warmed hW', X.limits, X.bytes, X.same.trans (hsame.setVm s.vm)⟩,
      ⟨g, mk, s₂, L, E, ce, rfl, rfl, hx, hce, hcv, hcl, rfl, hL, rfl, rfl⟩, ?_⟩
    show Steps p.tables e below _ (((({ U with heap := s₂.heap, slotsUsed := s₂.slotsUsed } : State).setVm s₂.vm).setTop g).pushFrame (.throwing q))
    rw [← hs₂]
    exact hsteps
end Payer
section Calls
variable {p : Program} {l : Launch} {e : Env} {R : Room} {s : State} {m : MethodId} {args : Array Value} {below : List Frame} {meth : Method} {c : Code} {T : State} {locs : List Loc} {cells slots : Nat}
theorem vx_callV (X : Stand p l e R s m args below meth c T locs cells slots) (hexec : p.tables.exec = Jvm.exec) {own C : String} {index : Nat} {y : MethodName} {bytes : ByteArray} {maxL : Nat} {ret : Option FieldType}
    (hown : s.vm.findClass own = some m.cls) (hlink : (Cond.methodLink own index y).before args s = true) (hinst : (Cond.instanceMethod y).before args s = true) (hsel : (Cond.selects C y y).before args s = true)
    (hcode : (Cond.code y bytes maxL ret).before args s = true) (hy : y.cls ≠ "java/lang/invoke/MethodHandle" ∧ y.cls ≠ "java/lang/invoke/VarHandle")
    {W9 : Nat} {Pre : Pt → Array Value → Prop} {Post : Pt → Array Value → Option Value → Pt → Prop} {PostX : Pt → Array Value → Addr → Pt → Prop} (hK : vx_Back l R p e below s args y 3 W9 Pre Post PostX)
    {b : Addr} {cellB : Cell} (hcell : T.heap[b]? = some cellB) (hobj : cellB.vm.isStatics = false) (hcls : s.vm.findClass C = some cellB.cls)
    {g : JFrame} (hg : g.method = m) (hsize : g.locals.size = c.maxLocals) {argsL rest : List Value} (hlen : ∀ sig, parseMethodDescriptor y.desc = some sig → argsL.length = sig.parameters.length)
    (hstack : g.stack = argsL.reverse ++ .ref b :: rest) (hW : 2 * g.monitorRoom + (rest.map fun v => v.category).sum ≤ W9) (hdg : decode c.code g.pc = .ok (.invokevirtual index, 3))
    (hpre : ∀ vm₁, s.WarmedH vm₁ → Pre ⟨T.setVm vm₁, locs, cells, slots⟩ (Value.ref b :: argsL).toArray) :
    (∃ (v : Option Value) (vm₁ : Vm) (B : Pt), s.WarmedH vm₁ ∧ Stand p l e R s m args below meth c B.U B.locs B.cells B.slots ∧ Post ⟨T.setVm vm₁, locs, cells, slots⟩ (Value.ref b :: argsL).toArray v B ∧
      ∀ target, Steps p.tables e below (B.U.setTop { g with pc := g.pc + 3, stack := v.toList ++ rest }) target → Steps p.tables e below (T.setTop g) target) ∨
    (∃ (q : Addr) (vm₁ : Vm) (B : Pt), s.WarmedH vm₁ ∧ Stand p l e R s m args below meth c B.U B.locs B.cells B.slots ∧ PostX ⟨T.setVm vm₁, locs, cells, slots⟩ (Value.ref b :: argsL).toArray q B ∧
      Steps p.tables e below (T.setTop g) ((B.U.setTop { g with stack := rest }).pushFrame (.throwing q))) := by
  obtain ⟨mk, methM, hnamed, hmethM, hstM, habM⟩ := Cond.instanceMethod_spec hinst
  obtain ⟨methM', cM, hmethM', -, -, -, -, -, -, hsigM⟩ := Cond.code_spec hnamed hcode
  cases hmethM.symm.trans hmethM'
  obtain ⟨c2, r2, m2, q1, q2, q3, q4, kP, hkP, hkPi⟩ := Cond.selects_spec hsel
  cases hcls.symm.trans q1
  cases (State.methodFound?_of_named hnamed hy).symm.trans q2
  cases hnamed.symm.trans q3
  have hselP : selectMethod e.platform s.vm cellB.cls mk = .method mk := by rw [Launch.admits_selectMethod X.admits]; exact q4
  obtain ⟨vm₁, X₁, hstep₁⟩ := X.invokevirtual hexec hown hlink hnamed hmethM hstM hkP hkPi hy (a := b) (cell := cellB) hcell
    (fun z h => by rw [h] at hobj; cases hobj) hselP hmethM habM hkP hkPi (g := g) hg (argsL := argsL) (rest := rest) (hlen _ hsigM) hstack hdg
  rcases hK m meth c ⟨T.setVm vm₁, locs, cells, slots⟩ { g with stack := rest } (.invokevirtual index) mk (Value.ref b :: argsL).toArray X₁ hg hsize hdg hW (X₁.named hnamed) (hpre vm₁ X₁.warmed) with ⟨v, B, X', hpost, hsteps⟩ | ⟨q, B, X', hpost, hsteps⟩
  · exact Or.inl ⟨v, vm₁, B, X₁.warmed, X', hpost, fun target h => hstep₁ _ fun acts => by rw [doInvoke_state]; exact hsteps.trans h⟩
  · exact Or.inr ⟨q, vm₁, B, X₁.warmed, X', hpost, hstep₁ _ fun acts => by rw [doInvoke_state]; exact hsteps⟩
theorem vx_callS (X : Stand p l e R s m args below meth c T locs cells slots) (hexec : p.tables.exec = Jvm.exec) {own : String} {index : Nat} {y : MethodName} {bytes : ByteArray} {maxL : Nat} {ret : Option FieldType}
    (hown : s.vm.findClass own = some m.cls) (hlink : (Cond.methodLink own index y).before args s = true) (hstat : (Cond.static y).before args s = true) (hinit : (Cond.initialized y.cls).before args s = true)
    (hcode : (Cond.code y bytes maxL ret).before args s = true) (hy : y.cls ≠ "java/lang/invoke/MethodHandle" ∧ y.cls ≠ "java/lang/invoke/VarHandle")
    {W9 : Nat} {Pre : Pt → Array Value → Prop} {Post : Pt → Array Value → Option Value → Pt → Prop} {PostX : Pt → Array Value → Addr → Pt → Prop} (hK : vx_Back l R p e below s args y 3 W9 Pre Post PostX)
    {g : JFrame} (hg : g.method = m) (hsize : g.locals.size = c.maxLocals) {argsL rest : List Value} (hlen : ∀ sig, parseMethodDescriptor y.desc = some sig → argsL.length = sig.parameters.length)
    (hstack : g.stack = argsL.reverse ++ rest) (hW : 2 * g.monitorRoom + (rest.map fun v => v.category).sum ≤ W9) (hdg : decode c.code g.pc = .ok (.invokestatic index, 3))
    (hpre : ∀ vm₁, s.WarmedH vm₁ → Pre ⟨T.setVm vm₁, locs, cells, slots⟩ argsL.toArray) :
    (∃ (v : Option Value) (vm₁ : Vm) (B : Pt), s.WarmedH vm₁ ∧ Stand p l e R s m args below meth c B.U B.locs B.cells B.slots ∧ Post ⟨T.setVm vm₁, locs, cells, slots⟩ argsL.toArray v B ∧
      ∀ target, Steps p.tables e below (B.U.setTop { g with pc := g.pc + 3, stack := v.toList ++ rest }) target → Steps p.tables e below (T.setTop g) target) ∨
    (∃ (q : Addr) (vm₁ : Vm) (B : Pt), s.WarmedH vm₁ ∧ Stand p l e R s m args below meth c B.U B.locs B.cells B.slots ∧ PostX ⟨T.setVm vm₁, locs, cells, slots⟩ argsL.toArray q B ∧
      Steps p.tables e below (T.setTop g) ((B.U.setTop { g with stack := rest }).pushFrame (.throwing q))) := by
  obtain ⟨mk, hnamed⟩ := Cond.code_named hcode
  obtain ⟨methM, cM, hmethM, -, -, -, -, -, -, hsigM⟩ := Cond.code_spec hnamed hcode
  have hstatic : methM.isStatic = true := Cond.static_spec hnamed hmethM hstat
  obtain ⟨kP, hkP, -⟩ := className_of_methodNamed hnamed
  have hinitP : kP.init = .initialized := Cond.initialized_spec (findClass_of_methodNamed hnamed) hkP hinit
  obtain ⟨vm₁, X₁, hstep₁⟩ := X.invokestatic hexec hown hlink hnamed hmethM hstatic hkP hinitP hy (g := g) hg (argsL := argsL) (rest := rest) (hlen _ hsigM) hstack hdg
  rcases hK m meth c ⟨T.setVm vm₁, locs, cells, slots⟩ { g with stack := rest } (.invokestatic index) mk argsL.toArray X₁ hg hsize hdg hW (X₁.named hnamed) (hpre vm₁ X₁.warmed) with ⟨v, B, X', hpost, hsteps⟩ | ⟨q, B, X', hpost, hsteps⟩
  · exact Or.inl ⟨v, vm₁, B, X₁.warmed, X', hpost, fun target h => hstep₁ _ fun acts => by rw [doInvoke_state]; exact hsteps.trans h⟩
  · exact Or.inr ⟨q, vm₁, B, X₁.warmed, X', hpost, hstep₁ _ fun acts => by rw [doInvoke_state]; exact hsteps⟩
end Calls
theorem vx_cls {s : State} {T : State} {vm₁ : Vm} {E : String} {k : ClassId} (hW : s.WarmedH vm₁) (h : (T.setVm vm₁).vm.findClass E = some k) : s.vm.findClass E = some k := by
  have h1 : vm₁.findClass E = some k := h
  rw [hW.alike.findClass] at h1
  exact h1
/-- the method's frame g, with q thrown over it -/
def vx_W (p : Program) (l : Launch) (e : Env) (R : Room) (s : State) (m : MethodId) (args : Array Value) (below : List Frame) (meth : Method) (c : Code) (H : Heap) (locs : List Loc) (cells slots : Nat) (Q : State → Prop) (g : JFrame) (q : Addr) : Prop :=
  ∀ T : State, T.heap = H → Stand p l e R s m args below meth c T locs cells slots → ∃ t, Steps p.tables e below ((T.setTop g).pushFrame (.throwing q)) t ∧ Q t
def vx_Run (p : Program) (l : Launch) (e : Env) (R : Room) (s : State) (m : MethodId) (args : Array Value) (below : List Frame) (meth : Method) (c : Code) (H : Heap) (locs : List Loc) (cells slots mc ms : Nat) (g : JFrame) (rest : List Value) (Qa : State → Outcome → State → Prop) (XC : String → State → State → Prop) (free : Addr → Prop) : Prop :=
  ∀ T : State, T.heap = H → Stand p l e R s m args below meth c T locs cells slots →
    (∃ (v : Option Value) (st₀ t T' : State) (L : List Loc), st₀.heap = H ∧ Stand p l e R s m args below meth c T' (locs ++ L) (cells + mc) (slots + ms) ∧ (∀ q ∈ L, free q.base) ∧ T'.heap = t.heap ∧ T'.vm = t.vm ∧ Qa st₀ (.returned v) t ∧
      Goes p e below T g T' { g with pc := g.pc + 3, stack := v.toList ++ rest }) ∨
    (∃ (q : Addr) (st₀ t T' : State) (L : List Loc) (E : String) (ce : Cell), st₀.heap = H ∧ Stand p l e R s m args below meth c T' (locs ++ L) (cells + mc) (slots + ms) ∧ (∀ z ∈ L, free z.base) ∧ T'.heap = t.heap ∧ T'.vm = t.vm ∧ XC E st₀ t ∧ t.heap[q]? = some ce ∧ ce.vm = .none ∧ s.vm.findClass E = some ce.cls ∧
      Steps p.tables e below (T.setTop g) ((T'.setTop { g with stack := rest }).pushFrame (.throwing q)))
def vx_X {S : Type} (px : S → Prop) (B : String → S → State → Prop) (A : Nat → Prop) : String → State → State → Prop := fun E st t => ∃ u : S, px u ∧ B E u t ∧ va_F A st t
section Runs
variable {p : Program} {l : Launch} {e : Env} {R : Room} {s : State} {m : MethodId} {args : Array Value} {below : List Frame} {meth : Method} {c : Code} {H : Heap} {locs : List Loc} {cells slots : Nat}
variable {y : MethodName} {bytes cc : ByteArray} {maxL nL mc ms n index : Nat} {ret : Option FieldType} {ws : List Cond} {rm : Room} {Pc : Array Value → State → Prop} {Qc : Array Value → State → Outcome → State → Prop} {XC : String → State → State → Prop} {free : Addr → Prop} {Ts : List Cond} {own C : String} {b : Addr} {As rest : List Value} {g : JFrame}
theorem vx_callBack (cb : CallB R s args own index y bytes maxL ret ws rm mc ms n) (hM : vx_Met l y ws rm Pc Qc XC mc ms free) (hbl : FrameBlind Pc) : vx_Back l R p e below s args y 3 8 (PreOf R mc ms Pc) (PostOf Qc mc ms free) (vx_Post XC mc ms free) := by
  obtain ⟨hrc, hrs, hfr, hlo, hws, hcw, -, hini, -⟩ := cb
  exact vx_back (bytes := bytes) (maxL := maxL) (ret := ret) hM hbl hrc hrs hfr hlo hws hcw (fun a' U hW => word_at hW (Or.inl (by first | rfl | simp [Cond.onTables, Cond.keeps, Cond.steady])) hini)
theorem vx_runV (S : CallFix p m c cc nL s args Ts own) (hM : vx_Met l y ws rm Pc Qc XC mc ms free) (cw : CallW R s args own C index y bytes maxL ret ws rm mc ms n) (hp : PreV s H C b Pc As)
    (hg : g.method = m) (hn : As.length = n) (hsize : g.locals.size = nL) (hstack : g.stack = As.reverse ++ .ref b :: rest) (hW : 2 * g.monitorRoom + (rest.map fun v => v.category).sum ≤ 8) (hdg : decode cc g.pc = .ok (.invokevirtual index, 3)) (hf : cells + mc ≤ R.cells ∧ slots + ms ≤ R.slots) :
    vx_Run p l e R s m args below meth c H locs cells slots mc ms g rest (Qc (Value.ref b :: As).toArray) XC free := by
  have hK : vx_Back l R p e below s args y 3 8 (PreOf R mc ms Pc) (PostOf Qc mc ms free) (vx_Post XC mc ms free) := vx_callBack cw.1 hM hp.1
  obtain ⟨⟨-, -, -, -, -, -, hcode, -, hy, hlen, hl⟩, hin, hse⟩ := cw
  obtain ⟨hx, hb, hml, ho, -⟩ := S
  obtain ⟨-, ⟨cellB, hcB, hoB, hclB⟩, hPc⟩ := hp
  intro T hT X
  rcases vx_callV X hx (C := C) (bytes := bytes) (maxL := maxL) (ret := ret) ho hl hin hse hcode hy hK (by rw [hT]; exact hcB) hoB hclB hg (hsize.trans hml.symm) (argsL := As) (rest := rest) (fun sig h => hn.trans (hlen sig h)) hstack hW (by rw [hb]; exact hdg)
    (fun vm₁ hW₁ => ⟨hf.1, hf.2, hPc (T.setVm vm₁) hT hW₁⟩) with ⟨v, vm₁, ⟨U', l2, c2, s2⟩, hW₁, X', ⟨g', mk, t, L, e1, e2, hq, h1, hL, h2, h3⟩, st⟩ | ⟨q, vm₁, ⟨U', l2, c2, s2⟩, hW₁, X', ⟨g', mk, t, L, E, ce, e1, e2, hq, hce, hcv, hcl, h1, hL, h2, h3⟩, st⟩
  · dsimp only [Pt.U, Pt.locs, Pt.cells, Pt.slots] at X' e1 e2 h1 h2 h3 st
    subst h1; subst h2; subst h3
    exact Or.inl ⟨v, (T.setVm vm₁).calling g' mk (Value.ref b :: As).toArray, t, U', L, hT, X', hL, e1, e2, hq, st⟩
  · dsimp only [Pt.U, Pt.locs, Pt.cells, Pt.slots] at X' e1 e2 h1 h2 h3 st hcl
    subst h1; subst h2; subst h3
    exact Or.inr ⟨q, (T.setVm vm₁).calling g' mk (Value.ref b :: As).toArray, t, U', L, E, ce, hT, X', hL, e1, e2, hq, hce, hcv, vx_cls hW₁ hcl, st⟩
theorem vx_runS (S : CallFix p m c cc nL s args Ts own) (hM : vx_Met l y ws rm Pc Qc XC mc ms free) (cw : CallB R s args own index y bytes maxL ret ws rm mc ms n ∧ (Cond.static y).before args s = true) (hp : PreS s H Pc As)
    (hg : g.method = m) (hn : As.length = n) (hsize : g.locals.size = nL) (hstack : g.stack = As.reverse ++ rest) (hW : 2 * g.monitorRoom + (rest.map fun v => v.category).sum ≤ 8) (hdg : decode cc g.pc = .ok (.invokestatic index, 3)) (hf : cells + mc ≤ R.cells ∧ slots + ms ≤ R.slots) :
    vx_Run p l e R s m args below meth c H locs cells slots mc ms g rest (Qc As.toArray) XC free := by
  have hK : vx_Back l R p e below s args y 3 8 (PreOf R mc ms Pc) (PostOf Qc mc ms free) (vx_Post XC mc ms free) := vx_callBack cw.1 hM hp.1
  obtain ⟨⟨-, -, -, -, -, -, hcode, hini, hy, hlen, hl⟩, hstt⟩ := cw
  obtain ⟨hx, hb, hml, ho, -⟩ := S
  intro T hT X
  rcases vx_callS X hx (bytes := bytes) (maxL := maxL) (ret := ret) ho hl hstt hini hcode hy hK hg (hsize.trans hml.symm) (argsL := As) (rest := rest) (fun sig h => hn.trans (hlen sig h)) hstack hW (by rw [hb]; exact hdg)
    (fun vm₁ hW₁ => ⟨hf.1, hf.2, hp.2 (T.setVm vm₁) hT hW₁⟩) with ⟨v, vm₁, ⟨U', l2, c2, s2⟩, hW₁, X', ⟨g', mk, t, L, e1, e2, hq, h1, hL, h2, h3⟩, st⟩ | ⟨q, vm₁, ⟨U', l2, c2, s2⟩, hW₁, X', ⟨g', mk, t, L, E, ce, e1, e2, hq, hce, hcv, hcl, h1, hL, h2, h3⟩, st⟩
  · dsimp only [Pt.U, Pt.locs, Pt.cells, Pt.slots] at X' e1 e2 h1 h2 h3 st
    subst h1; subst h2; subst h3
    exact Or.inl ⟨v, (T.setVm vm₁).calling g' mk As.toArray, t, U', L, hT, X', hL, e1, e2, hq, st⟩
  · dsimp only [Pt.U, Pt.locs, Pt.cells, Pt.slots] at X' e1 e2 h1 h2 h3 st hcl
    subst h1; subst h2; subst h3
    exact Or.inr ⟨q, (T.setVm vm₁).calling g' mk As.toArray, t, U', L, E, ce, hT, X', hL, e1, e2, hq, hce, hcv, vx_cls hW₁ hcl, st⟩
end Runs
section Rows
variable {p : Program} {l : Launch} {e : Env} {R : Room} {s : State} {m : MethodId} {args : Array Value} {below : List Frame} {meth : Method} {c : Code} {H : Heap} {locs : List Loc} {cells slots : Nat} {Q : State → Prop}
variable {mc ms : Nat} {free : Addr → Prop} {A0 A1 : Nat → Prop} {H0 : Heap} {a : Array Value} {pc : Nat} {ls : Array Slot} {st0 rest : List Value}
theorem vx_keep {st₀ t T' : State} {L : List Loc} (h0 : st₀.heap = H) (e1 : T'.heap = t.heap) (hS : va_S A0 H0 H locs) (hA : ∀ q, q < H.size → A1 q → A0 q) (hf : ∀ q, free q → A0 q) (hL : ∀ q ∈ L, free q.base) (hF : va_F A1 st₀ t) :
    H.size ≤ T'.heap.size ∧ (∀ q : Nat, q < H.size → ¬ A1 q → T'.heap[q]? = H[q]?) ∧ va_S A0 H0 T'.heap (locs ++ L) := by
  obtain ⟨hz, hk⟩ := hF
  rw [h0] at hz hk
  exact ⟨by rw [e1]; exact hz, fun q h1 h2 => by rw [e1]; exact hk q h1 h2,
    ⟨Nat.le_trans hS.1 (by rw [e1]; exact hz), fun q h1 h2 => by rw [e1, hk q (Nat.lt_of_lt_of_le h1 hS.1) (fun z => h2 (hA q (Nat.lt_of_lt_of_le h1 hS.1) z))]; exact hS.2.1 q h1 h2, fun q hq => by
      rcases List.mem_append.mp hq with h | h
      · exact hS.2.2 q h
      · exact hf _ (hL q h)⟩⟩
theorem vx_calli {S SX : Type} {post : Int32 → S → Prop} {px : SX → Prop} {B : S → State → Prop} {BX : String → SX → State → Prop} {AX : Nat → Prop} (hr : vx_Run p l e R s m args below meth c H locs cells slots mc ms (F0 m pc ls st0) rest (va_Qi post B A1 a) (vx_X px BX AX) free) (hS : va_S A0 H0 H locs) (hA : ∀ q, q < H.size → A1 q → A0 q) (hf : ∀ q, free q → A0 q) (hAX : ∀ q, q < H.size → AX q → A0 q)
    (kx : ∀ (E : String) (ce : Cell) (q9 : Addr) (u : SX) (t : State) (H1 : Heap) (locs1 : List Loc), t.heap = H1 → s.vm.Alike t.vm → px u → BX E u t → H.size ≤ H1.size → (∀ q : Nat, q < H.size → ¬ AX q → H1[q]? = H[q]?) → va_S A0 H0 H1 locs1 → H1[q9]? = some ce → ce.vm = .none → s.vm.findClass E = some ce.cls → vx_W p l e R s m args below meth c H1 locs1 (cells + mc) (slots + ms) Q (F0 m pc ls rest) q9)
    (kk : ∀ (r : Int32) (u : S) (t : State) (H1 : Heap) (locs1 : List Loc), t.heap = H1 → s.vm.Alike t.vm → post r u → B u t → H.size ≤ H1.size → (∀ q : Nat, q < H.size → ¬ A1 q → H1[q]? = H[q]?) → va_S A0 H0 H1 locs1 → W p l e R s m args below meth c H1 locs1 (cells + mc) (slots + ms) Q (F0 m (pc + 3) ls (.int r :: rest))) : W p l e R s m args below meth c H locs cells slots Q (F0 m pc ls st0) := by
  intro T hT X
  rcases hr T hT X with ⟨v, st₀, t, T', L, h0, X', hL, e1, e2, ⟨⟨r, u, hv, hp, hb⟩, hF⟩, st⟩ | ⟨q, st₀, t, T', L, E, ce, h0, X', hL, e1, e2, ⟨u, hp, hb, hF⟩, hce, hcv, hcl, st⟩
  · cases hv
    obtain ⟨k1, k2, k3⟩ := vx_keep h0 e1 hS hA hf hL hF
    obtain ⟨t2, a1, b1⟩ := kk r u t T'.heap (locs ++ L) e1.symm (by rw [← e2]; exact X'.warmed.alike) hp hb k1 k2 k3 T' rfl X'
    exact ⟨t2, st t2 a1, b1⟩
  · obtain ⟨k1, k2, k3⟩ := vx_keep h0 e1 hS hAX hf hL hF
    obtain ⟨t2, a1, b1⟩ := kx E ce q u t T'.heap (locs ++ L) e1.symm (by rw [← e2]; exact X'.warmed.alike) hp hb k1 k2 k3 (by rw [e1]; exact hce) hcv hcl T' rfl X'
    exact ⟨t2, st.trans a1, b1⟩
theorem vx_calll {S SX : Type} {post : Int64 → S → Prop} {px : SX → Prop} {B : S → State → Prop} {BX : String → SX → State → Prop} {AX : Nat → Prop} (hr : vx_Run p l e R s m args below meth c H locs cells slots mc ms (F0 m pc ls st0) rest (va_Ql post B A1 a) (vx_X px BX AX) free) (hS : va_S A0 H0 H locs) (hA : ∀ q, q < H.size → A1 q → A0 q) (hf : ∀ q, free q → A0 q) (hAX : ∀ q, q < H.size → AX q → A0 q)
    (kx : ∀ (E : String) (ce : Cell) (q9 : Addr) (u : SX) (t : State) (H1 : Heap) (locs1 : List Loc), t.heap = H1 → s.vm.Alike t.vm → px u → BX E u t → H.size ≤ H1.size → (∀ q : Nat, q < H.size → ¬ AX q → H1[q]? = H[q]?) → va_S A0 H0 H1 locs1 → H1[q9]? = some ce → ce.vm = .none → s.vm.findClass E = some ce.cls → vx_W p l e R s m args below meth c H1 locs1 (cells + mc) (slots + ms) Q (F0 m pc ls rest) q9)
    (kk : ∀ (r : Int64) (u : S) (t : State) (H1 : Heap) (locs1 : List Loc), t.heap = H1 → s.vm.Alike t.vm → post r u → B u t → H.size ≤ H1.size → (∀ q : Nat, q < H.size → ¬ A1 q → H1[q]? = H[q]?) → va_S A0 H0 H1 locs1 → W p l e R s m args below meth c H1 locs1 (cells + mc) (slots + ms) Q (F0 m (pc + 3) ls (.long r :: rest))) : W p l e R s m args below meth c H locs cells slots Q (F0 m pc ls st0) := by
  intro T hT X
  rcases hr T hT X with ⟨v, st₀, t, T', L, h0, X', hL, e1, e2, ⟨⟨r, u, hv, hp, hb⟩, hF⟩, st⟩ | ⟨q, st₀, t, T', L, E, ce, h0, X', hL, e1, e2, ⟨u, hp, hb, hF⟩, hce, hcv, hcl, st⟩
  · cases hv
    obtain ⟨k1, k2, k3⟩ := vx_keep h0 e1 hS hA hf hL hF
    obtain ⟨t2, a1, b1⟩ := kk r u t T'.heap (locs ++ L) e1.symm (by rw [← e2]; exact X'.warmed.alike) hp hb k1 k2 k3 T' rfl X'
    exact ⟨t2, st t2 a1, b1⟩
  · obtain ⟨k1, k2, k3⟩ := vx_keep h0 e1 hS hAX hf hL hF
    obtain ⟨t2, a1, b1⟩ := kx E ce q u t T'.heap (locs ++ L) e1.symm (by rw [← e2]; exact X'.warmed.alike) hp hb k1 k2 k3 (by rw [e1]; exact hce) hcv hcl T' rfl X'
    exact ⟨t2, st.trans a1, b1⟩
theorem vx_callf {S SX : Type} {post : UInt32 → S → Prop} {px : SX → Prop} {B : S → State → Prop} {BX : String → SX → State → Prop} {AX : Nat → Prop} (hr : vx_Run p l e R s m args below meth c H locs cells slots mc ms (F0 m pc ls st0) rest (va_Qf post B A1 a) (vx_X px BX AX) free) (hS : va_S A0 H0 H locs) (hA : ∀ q, q < H.size → A1 q → A0 q) (hf : ∀ q, free q → A0 q) (hAX : ∀ q, q < H.size → AX q → A0 q)
    (kx : ∀ (E : String) (ce : Cell) (q9 : Addr) (u : SX) (t : State) (H1 : Heap) (locs1 : List Loc), t.heap = H1 → s.vm.Alike t.vm → px u → BX E u t → H.size ≤ H1.size → (∀ q : Nat, q < H.size → ¬ AX q → H1[q]? = H[q]?) → va_S A0 H0 H1 locs1 → H1[q9]? = some ce → ce.vm = .none → s.vm.findClass E = some ce.cls → vx_W p l e R s m args below meth c H1 locs1 (cells + mc) (slots + ms) Q (F0 m pc ls rest) q9)
    (kk : ∀ (r : UInt32) (u : S) (t : State) (H1 : Heap) (locs1 : List Loc), t.heap = H1 → s.vm.Alike t.vm → post r u → B u t → H.size ≤ H1.size → (∀ q : Nat, q < H.size → ¬ A1 q → H1[q]? = H[q]?) → va_S A0 H0 H1 locs1 → W p l e R s m args below meth c H1 locs1 (cells + mc) (slots + ms) Q (F0 m (pc + 3) ls (.float r :: rest))) : W p l e R s m args below meth c H locs cells slots Q (F0 m pc ls st0) := by
  intro T hT X
  rcases hr T hT X with ⟨v, st₀, t, T', L, h0, X', hL, e1, e2, ⟨⟨r, u, hv, hp, hb⟩, hF⟩, st⟩ | ⟨q, st₀, t, T', L, E, ce, h0, X', hL, e1, e2, ⟨u, hp, hb, hF⟩, hce, hcv, hcl, st⟩
  · cases hv
    obtain ⟨k1, k2, k3⟩ := vx_keep h0 e1 hS hA hf hL hF
    obtain ⟨t2, a1, b1⟩ := kk r u t T'.heap (locs ++ L) e1.symm (by rw [← e2]; exact X'.warmed.alike) hp hb k1 k2 k3 T' rfl X'
    exact ⟨t2, st t2 a1, b1⟩
  · obtain ⟨k1, k2, k3⟩ := vx_keep h0 e1 hS hAX hf hL hF
    obtain ⟨t2, a1, b1⟩ := kx E ce q u t T'.heap (locs ++ L) e1.symm (by rw [← e2]; exact X'.warmed.alike) hp hb k1 k2 k3 (by rw [e1]; exact hce) hcv hcl T' rfl X'
    exact ⟨t2, st.trans a1, b1⟩
theorem vx_calld {S SX : Type} {post : UInt64 → S → Prop} {px : SX → Prop} {B : S → State → Prop} {BX : String → SX → State → Prop} {AX : Nat → Prop} (hr : vx_Run p l e R s m args below meth c H locs cells slots mc ms (F0 m pc ls st0) rest (va_Qd post B A1 a) (vx_X px BX AX) free) (hS : va_S A0 H0 H locs) (hA : ∀ q, q < H.size → A1 q → A0 q) (hf : ∀ q, free q → A0 q) (hAX : ∀ q, q < H.size → AX q → A0 q)
    (kx : ∀ (E : String) (ce : Cell) (q9 : Addr) (u : SX) (t : State) (H1 : Heap) (locs1 : List Loc), t.heap = H1 → s.vm.Alike t.vm → px u → BX E u t → H.size ≤ H1.size → (∀ q : Nat, q < H.size → ¬ AX q → H1[q]? = H[q]?) → va_S A0 H0 H1 locs1 → H1[q9]? = some ce → ce.vm = .none → s.vm.findClass E = some ce.cls → vx_W p l e R s m args below meth c H1 locs1 (cells + mc) (slots + ms) Q (F0 m pc ls rest) q9)
    (kk : ∀ (r : UInt64) (u : S) (t : State) (H1 : Heap) (locs1 : List Loc), t.heap = H1 → s.vm.Alike t.vm → post r u → B u t → H.size ≤ H1.size → (∀ q : Nat, q < H.size → ¬ A1 q → H1[q]? = H[q]?) → va_S A0 H0 H1 locs1 → W p l e R s m args below meth c H1 locs1 (cells + mc) (slots + ms) Q (F0 m (pc + 3) ls (.double r :: rest))) : W p l e R s m args below meth c H locs cells slots Q (F0 m pc ls st0) := by
  intro T hT X
  rcases hr T hT X with ⟨v, st₀, t, T', L, h0, X', hL, e1, e2, ⟨⟨r, u, hv, hp, hb⟩, hF⟩, st⟩ | ⟨q, st₀, t, T', L, E, ce, h0, X', hL, e1, e2, ⟨u, hp, hb, hF⟩, hce, hcv, hcl, st⟩
  · cases hv
    obtain ⟨k1, k2, k3⟩ := vx_keep h0 e1 hS hA hf hL hF
    obtain ⟨t2, a1, b1⟩ := kk r u t T'.heap (locs ++ L) e1.symm (by rw [← e2]; exact X'.warmed.alike) hp hb k1 k2 k3 T' rfl X'
    exact ⟨t2, st t2 a1, b1⟩
  · obtain ⟨k1, k2, k3⟩ := vx_keep h0 e1 hS hAX hf hL hF
    obtain ⟨t2, a1, b1⟩ := kx E ce q u t T'.heap (locs ++ L) e1.symm (by rw [← e2]; exact X'.warmed.alike) hp hb k1 k2 k3 (by rw [e1]; exact hce) hcv hcl T' rfl X'
    exact ⟨t2, st.trans a1, b1⟩
theorem vx_callv {S SX : Type} {post : S → Prop} {px : SX → Prop} {B : S → State → Prop} {BX : String → SX → State → Prop} {AX : Nat → Prop} (hr : vx_Run p l e R s m args below meth c H locs cells slots mc ms (F0 m pc ls st0) rest (va_Qv post B A1 a) (vx_X px BX AX) free) (hS : va_S A0 H0 H locs) (hA : ∀ q, q < H.size → A1 q → A0 q) (hf : ∀ q, free q → A0 q) (hAX : ∀ q, q < H.size → AX q → A0 q)
    (kx : ∀ (E : String) (ce : Cell) (q9 : Addr) (u : SX) (t : State) (H1 : Heap) (locs1 : List Loc), t.heap = H1 → s.vm.Alike t.vm → px u → BX E u t → H.size ≤ H1.size → (∀ q : Nat, q < H.size → ¬ AX q → H1[q]? = H[q]?) → va_S A0 H0 H1 locs1 → H1[q9]? = some ce → ce.vm = .none → s.vm.findClass E = some ce.cls → vx_W p l e R s m args below meth c H1 locs1 (cells + mc) (slots + ms) Q (F0 m pc ls rest) q9)
    (kk : ∀ (u : S) (t : State) (H1 : Heap) (locs1 : List Loc), t.heap = H1 → s.vm.Alike t.vm → post u → B u t → H.size ≤ H1.size → (∀ q : Nat, q < H.size → ¬ A1 q → H1[q]? = H[q]?) → va_S A0 H0 H1 locs1 → W p l e R s m args below meth c H1 locs1 (cells + mc) (slots + ms) Q (F0 m (pc + 3) ls (rest))) : W p l e R s m args below meth c H locs cells slots Q (F0 m pc ls st0) := by
  intro T hT X
  rcases hr T hT X with ⟨v, st₀, t, T', L, h0, X', hL, e1, e2, ⟨⟨u, hv, hp, hb⟩, hF⟩, st⟩ | ⟨q, st₀, t, T', L, E, ce, h0, X', hL, e1, e2, ⟨u, hp, hb, hF⟩, hce, hcv, hcl, st⟩
  · cases hv
    obtain ⟨k1, k2, k3⟩ := vx_keep h0 e1 hS hA hf hL hF
    obtain ⟨t2, a1, b1⟩ := kk u t T'.heap (locs ++ L) e1.symm (by rw [← e2]; exact X'.warmed.alike) hp hb k1 k2 k3 T' rfl X'
    exact ⟨t2, st t2 a1, b1⟩
  · obtain ⟨k1, k2, k3⟩ := vx_keep h0 e1 hS hAX hf hL hF
    obtain ⟨t2, a1, b1⟩ := kx E ce q u t T'.heap (locs ++ L) e1.symm (by rw [← e2]; exact X'.warmed.alike) hp hb k1 k2 k3 (by rw [e1]; exact hce) hcv hcl T' rfl X'
    exact ⟨t2, st.trans a1, b1⟩
/-- caught by the row x of this method's table; the rows ahead don't take it -/
theorem vx_catch {own name : String} {E : String} {ce : Cell} {q : Addr} (hown : s.vm.findClass own = some m.cls) (pre : List ExceptionTableEntry) (x : ExceptionTableEntry) (suf : List ExceptionTableEntry) (hsplit : c.exceptionTable.toList = pre ++ x :: suf)
    (hpass : ∀ z ∈ pre, covers z pc = false ∨ (z.catchType ≠ 0 ∧ ∃ nm : String, (Cond.classLink own z.catchType nm).before args s = true ∧ va_Nc E nm s)) (hx : covers x pc = true) (h0 : x.catchType ≠ 0)
    (hlink : (Cond.classLink own x.catchType name).before args s = true) (hcast : (Cond.castable E name).before args s = true) (hcell : H[q]? = some ce) (hv : ce.vm = .none) (hcl : s.vm.findClass E = some ce.cls)
    (kk : W p l e R s m args below meth c H locs cells slots Q (F0 m x.handlerPc ls [.ref q])) : vx_W p l e R s m args below meth c H locs cells slots Q (F0 m pc ls rest) q := by
  intro T hT X
  have hpl : e.platform.magicAccessors = ({} : Platform).magicAccessors := by rw [X.admits.platform]
  obtain ⟨c3, c4, hc3, hc4, hasg⟩ := Cond.castable_spec hcast
  cases Option.some.inj (hc3.symm.trans hcl)
  obtain ⟨c5, hc5, hcl5⟩ := Cond.classLink_spec hown hlink e.platform hpl
  cases Option.some.inj (hc4.symm.trans hc5)
  obtain ⟨vm', X', st⟩ := X.thenCaughtThrough q (g := F0 m pc ls rest) rfl (Steps.refl _) (by rw [hT]; exact hcell) (by rw [hv]; rfl) (by obtain ⟨k9, h9, -⟩ := Vm.findClass_spec hcl; exact ⟨k9, h9⟩) pre x suf hsplit
    (fun z hz => by
      rcases hpass z hz with h | ⟨hz0, nm, hl1, hn1⟩
      · exact Or.inl h
      · obtain ⟨c6, hc6, hcl6⟩ := Cond.classLink_spec hown hl1 e.platform hpl
        obtain ⟨a8, b8, h1, h2, h3⟩ := hn1
        cases Option.some.inj (h1.symm.trans hcl)
        cases Option.some.inj (h2.symm.trans hc6)
        exact Or.inr ⟨hz0, _, hcl6, h3⟩) hx (Or.inr ⟨h0, c4, hcl5, hasg⟩)
  obtain ⟨t, a1, b1⟩ := kk (T.setVm vm') hT X'
  exact ⟨t, st.trans a1, b1⟩
end Rows
section Ends
variable {p : Program} {l : Launch} {e : Env} {R : Room} {s : State} {m : MethodId} {args : Array Value} {below : List Frame} {meth : Method} {c : Code} {H : Heap} {locs : List Loc} {cells slots : Nat} {Q : State → Prop}
variable {mc ms : Nat} {free : Addr → Prop} {A0 A1 : Nat → Prop} {H0 : Heap} {a : Array Value} {ls : Array Slot} {st0 rest : List Value}
variable {Qc : Array Value → State → Outcome → State → Prop} {XC : String → State → State → Prop}
/-- what a body that may throw owes at its end -/
def vx_MQ (below : List Frame) (Qc : Array Value → State → Outcome → State → Prop) (XC : String → State → State → Prop) (a : Array Value) (s : State) (mc ms : Nat) (free : Addr → Prop) : State → Prop := fun t =>
  ∃ o, t.status = .running ∧ Ended t below o ∧ vx_Q Qc XC mc ms free a s o t
theorem vx_ret {g : JFrame} {mc ms : Nat} (k : W p l e R s m args below meth c H locs cells slots (MQ below Qc args s mc ms free) g) : W p l e R s m args below meth c H locs cells slots (vx_MQ below Qc XC args s mc ms free) g := by
  intro T hT X
  obtain ⟨t, a1, o, b1, b2, b3, b4⟩ := k T hT X
  exact ⟨t, a1, o, b1, b2, Or.inl ⟨b3, b4⟩⟩
/-- not caught here: it goes on to the caller -/
theorem vx_widen {g : JFrame} {q : Addr} {k n : Nat} (h1 : cells ≤ k) (h2 : slots ≤ n) (kk : vx_W p l e R s m args below meth c H locs k n Q g q) : vx_W p l e R s m args below meth c H locs cells slots Q g q := fun T hT X => kk T hT (stand_widen X h1 h2)
theorem vx_out {pc : Nat} {E : String} {ce : Cell} {q : Addr} {mc ms : Nat} (hout : ∀ x ∈ c.exceptionTable.toList, covers x pc = false) (hlocks : meth.locks = false) (hcell : H[q]? = some ce) (hv : ce.vm = .none) (hcl : s.vm.findClass E = some ce.cls)
    (hx : ∀ t : State, t.heap = H → s.vm.Alike t.vm → XC E s t) (hf : ∀ z ∈ locs, free z.base) (hc : cells ≤ mc) (hs : slots ≤ ms) :
    vx_W p l e R s m args below meth c H locs cells slots (vx_MQ below Qc XC args s mc ms free) (F0 m pc ls rest) q := by
  intro T hT X
  obtain ⟨st1, hrun, hend, hW, hsm⟩ := X.leaveThrown q (g := F0 m pc ls rest) rfl rfl rfl hout hlocks
  have hcell9 : (T.setFrames (.throwing q :: below)).heap[q]? = some ce := by
    show T.heap[q]? = some ce
    rw [hT]; exact hcell
  exact ⟨_, st1, .threw q, hrun, hend, Or.inr ⟨q, rfl, E, ce, locs, hx _ hT hW.alike, hcell9, hv, hcl, hW, hsm.mono hc hs, hf⟩⟩
theorem vx_frame {U : State} {k n : Nat} (h : s.sameButNew ({ U with vm := s.vm } : State) locs k n) : s.heap.size ≤ U.heap.size ∧ ∀ q : Nat, q < s.heap.size → (∀ z ∈ locs, z.base ≠ q) → U.heap[q]? = s.heap[q]? := by
  obtain ⟨-, h2, -, -, -, h6⟩ := h
  refine ⟨h2, fun q hq hz => ?_⟩
  obtain ⟨c9, e1, e2, e3, e4⟩ := h6 q _ (Array.getElem?_eq_getElem hq)
  have hs : c9.slots = (s.heap[q]).slots := Array.ext_getElem? fun i => e4 i fun hm => hz _ hm rfl
  have h9 : c9 = s.heap[q] := by
    rw [hs] at e2
    exact e2
  have e5 : U.heap[q]? = some c9 := e1
  rw [e5, h9, Array.getElem?_eq_getElem hq]
/-- the words of a throw but the four that speak of the heap -/
def vx_no (w : Cond) : Bool := decide (w ≠ .isRef (.static Bundle.tN "UNASSIGNED_STACK" Bundle.steD)) && decide (w ≠ .isRef (.static Bundle.tN "SUPPRESSED_SENTINEL" Bundle.listD)) && decide (w ≠ .laysStatic Bundle.tN "UNASSIGNED_STACK" Bundle.steD) && decide (w ≠ .laysStatic Bundle.tN "SUPPRESSED_SENTINEL" Bundle.listD)
def vx_at0 (own : String) (ic : Nat) (X : String) (names : List String) : List Cond := (Bundle.ownAtoms0 own ic X names).filter vx_no
def vx_atS (own : String) (ic : Nat) (X : String) (names : List String) : List Cond := (Bundle.ownAtoms own ic X names).filter vx_no
/-- a word that the tables alone decide, or a good one -/
def vx_ot (w : Cond) : Bool := w.onTables || goodWord w
theorem vx_ot_at {args a' : Array Value} {s U : State} {w : Cond} (hW : s.WarmedH U.vm) (hvm : s.vm = U.vm) (hg : vx_ot w = true) (h : w.before args s = true) : w.before a' U = true := by
  simp only [vx_ot, Bool.or_eq_true] at hg
  rcases hg with hg | hg
  · exact va_tabs hg hvm h
  · exact word_at hW (good_of_word hg) h
/-- a list's words: the good ones out of the method's own list, the others by premises of their own -/
theorem vx_hat {args : Array Value} {s : State} {L B : List Cond} (h1 : ∀ w ∈ L.filter goodWord, w.before args s = true) (h2 : ∀ w ∈ L.filter (fun w => !goodWord w), w ∈ B) (h3 : ∀ w ∈ B, w.before args s = true) : ∀ w ∈ L, w.before args s = true := by
  intro w hw
  by_cases g : goodWord w = true
  · exact h1 w (List.mem_filter.mpr ⟨hw, g⟩)
  · refine h3 w (h2 w (List.mem_filter.mpr ⟨hw, ?_⟩))
    show (!goodWord w) = true
    cases hgw : goodWord w
    · rfl
    · exact absurd hgw g
theorem vx_c {args : Array Value} {s : State} {w : Cond} {B : List Cond} (h : w.before args s = true) (t : ∀ w ∈ B, w.before args s = true) : ∀ w' ∈ w :: B, w'.before args s = true := fun w' h' => (List.mem_cons.mp h').elim (fun e => by rw [e]; exact h) (t w')
theorem vx_n {args : Array Value} {s : State} : ∀ w ∈ ([] : List Cond), w.before args s = true := fun _ h => nomatch h
theorem vx_own {args : Array Value} {s : State} {L : List Cond} (h1 : ∀ w ∈ L.filter vx_no, w.before args s = true)
    (hU : (Cond.isRef (.static Bundle.tN "UNASSIGNED_STACK" Bundle.steD)).before args s = true) (hN : (Cond.isRef (.static Bundle.tN "SUPPRESSED_SENTINEL" Bundle.listD)).before args s = true)
    (lU : (Cond.laysStatic Bundle.tN "UNASSIGNED_STACK" Bundle.steD).before args s = true) (lN : (Cond.laysStatic Bundle.tN "SUPPRESSED_SENTINEL" Bundle.listD).before args s = true) : ∀ w ∈ L, w.before args s = true := by
  intro w hw
  by_cases e1 : w = .isRef (.static Bundle.tN "UNASSIGNED_STACK" Bundle.steD)
  · rw [e1]; exact hU
  · by_cases e2 : w = .isRef (.static Bundle.tN "SUPPRESSED_SENTINEL" Bundle.listD)
    · rw [e2]; exact hN
    · by_cases e3 : w = .laysStatic Bundle.tN "UNASSIGNED_STACK" Bundle.steD
      · rw [e3]; exact lU
      · by_cases e4 : w = .laysStatic Bundle.tN "SUPPRESSED_SENTINEL" Bundle.listD
        · rw [e4]; exact lN
        · exact h1 w (List.mem_filter.mpr ⟨hw, by unfold vx_no; rw [decide_eq_true e1, decide_eq_true e2, decide_eq_true e3, decide_eq_true e4]; rfl⟩)
/-- where a static field lies, its class's statics cell in H -/
def vx_L (C n d : String) (A : Nat → Prop) (U : State) (H : Heap) : Prop := ∃ (c : ClassId) (k : Class) (i : Nat) (f : Field) (a : Nat) (cell : Cell), U.vm.findClass C = some c ∧ U.fieldFound? C n d = some (c, k, i, f) ∧ f.isStatic = true ∧ k.statics = some a ∧ H[a]? = some cell ∧ cell.vm.isStatics = true ∧ cell.cls = c ∧ f.slot < cell.slots.size ∧ k.staticTypes[f.slot]? = some f.type ∧ ¬ A a
theorem vx_L.moved {C n d : String} {A : Nat → Prop} {u U : State} {H : Heap} (hvm : u.vm.Alike U.vm) (h : vx_L C n d A u H) : vx_L C n d A U H := by
  obtain ⟨c, k, i, f, a, cell, h1, h2, h3, h4, h5, h6, h7, h8, h9, h10⟩ := h
  obtain ⟨k', hi', he⟩ := State.fieldFound?_setVm hvm h2
  exact ⟨c, k', i, f, a, cell, by rw [hvm.findClass]; exact h1, hi', h3, by rw [he]; exact h4, h5, h6, h7, h8, by rw [he]; exact h9, h10⟩
theorem vx_L.kept {C n d : String} {A : Nat → Prop} {U : State} {H H1 : Heap} (h : vx_L C n d A U H) (hq : ∀ a : Nat, a < H.size → ¬ A a → H1[a]? = H[a]?) : vx_L C n d A U H1 := by
  obtain ⟨c, k, i, f, a, cell, h1, h2, h3, h4, h5, h6, h7, h8, h9, h10⟩ := h
  exact ⟨c, k, i, f, a, cell, h1, h2, h3, h4, by rw [hq a (Array.getElem?_eq_some_iff.mp h5).1 h10]; exact h5, h6, h7, h8, h9, h10⟩
theorem vx_L.narrow {C n d : String} {A B : Nat → Prop} {U : State} {H : Heap} (h : vx_L C n d A U H) (hAB : ∀ q, B q → A q) : vx_L C n d B U H := by
  obtain ⟨c, k, i, f, a, cell, h1, h2, h3, h4, h5, h6, h7, h8, h9, h10⟩ := h
  exact ⟨c, k, i, f, a, cell, h1, h2, h3, h4, h5, h6, h7, h8, h9, fun z => h10 (hAB _ z)⟩
theorem vx_L.word {C n d : String} {A : Nat → Prop} {s : State} {args : Array Value} (h : vx_L C n d A s s.heap) : (Cond.laysStatic C n d).before args s = true := by
  obtain ⟨c, k, i, f, a, cell, h1, h2, h3, h4, h5, h6, h7, h8, h9, -⟩ := h
  show (Cond.laysStatic C n d).holds args s none s [] = true
  exact Cond.laysStatic_of h1 h2 h3 h4 h5 h6 h7 h8 h9
/-- .. and what it holds: null or some reference -/
def vx_Zq (C n d : String) (A : Nat → Prop) (U : State) (H : Heap) : Prop := va_Zq C n d A U H ∧ vx_L C n d A U H
theorem vx_Zq.moved {C n d : String} {A : Nat → Prop} {u U : State} {H : Heap} (hvm : u.vm.Alike U.vm) (h : vx_Zq C n d A u H) : vx_Zq C n d A U H := ⟨va_Zq.moved hvm h.1, vx_L.moved hvm h.2⟩
theorem vx_Zq.kept {C n d : String} {A : Nat → Prop} {U : State} {H H1 : Heap} (h : vx_Zq C n d A U H) (hq : ∀ a : Nat, a < H.size → ¬ A a → H1[a]? = H[a]?) : vx_Zq C n d A U H1 := ⟨va_Zq.kept h.1 hq, vx_L.kept h.2 hq⟩
theorem vx_Zq.narrow {C n d : String} {A B : Nat → Prop} {U : State} {H : Heap} (h : vx_Zq C n d A U H) (hAB : ∀ q, B q → A q) : vx_Zq C n d B U H := ⟨va_Zq.narrow h.1 hAB, vx_L.narrow h.2 hAB⟩
theorem vx_Zqof {args : Array Value} {s : State} {C n d : String} {A : Nat → Prop} (hl : (Cond.laysStatic C n d).before args s = true) (hini : (Cond.initialized C).before args s = true) (h : (Cond.isRef (.static C n d)).before args s = true) (hA : ∀ a : Nat, a < s.heap.size → ¬ A a) : vx_Zq C n d A s s.heap := by
  refine ⟨va_Zqof hl hini h hA, ?_⟩
  obtain ⟨c, k, i, f, a, cell, h1, h2, h3, h4, h5, h6, h7, h8, h9⟩ := Cond.laysStatic_spec hl
  exact ⟨c, k, i, f, a, cell, h1, h2, h3, h4, h5, h6, h7, h8, h9, hA a (Array.getElem?_eq_some_iff.mp h5).1⟩
theorem vx_isRef {C n d : String} {v : Value} {A : Nat → Prop} {s : State} {args : Array Value} (h : va_Z C n d v A s s.heap) (hv : v.isRef = true) : (Cond.isRef (.static C n d)).before args s = true := by
  obtain ⟨cf, kf, fi, f, a, cell, h1, h2, h3, h4, h5, h6, h7, -⟩ := h
  have he : (Term.static C n d).eval args s none [] s = some v := by
    simp [Term.eval, State.fieldNamed?, h1, h2, h4, h5, h6, h7]
  simp only [Cond.before, Cond.holds, Cond.value, he]
  cases v <;> simp_all [Value.isRef]
theorem vx_isRefq {C n d : String} {A : Nat → Prop} {s : State} {args : Array Value} (h : va_Zq C n d A s s.heap) : (Cond.isRef (.static C n d)).before args s = true := by
  rcases h with h | ⟨t, h⟩
  · exact vx_isRef h rfl
  · exact vx_isRef h rfl
/-- the same frame, seen from here: as if the method were called anew in this heap -/
theorem vx_rebase {T : State} (X : Stand p l e R s m args below meth c T locs cells slots) {R' : Room} (hf : R'.frames ≤ R.frames) (hl : R'.locals ≤ R.locals) (hc : cells + R'.cells ≤ R.cells) (hs : slots + R'.slots ≤ R.slots) :
    Stand p l e R' ((T.setVm s.vm).setFrames (.invoking m args :: below)) m args below meth c T [] 0 0 := by
  have htop : (T.setVm s.vm).topJava?.isSome := X.here.top
  have hF : ((T.setVm s.vm).setFrames (.invoking m args :: below)).frames = .invoking m args :: below := State.frames_setFrames _ (State.cur_lt_of_top htop)
  obtain ⟨g₀, hg0⟩ := Option.isSome_iff_exists.mp htop
  obtain ⟨r, hr⟩ := State.topJava?_eq_some.mp hg0
  have hl9 : e.platform.stackLimits (T.setVm s.vm).me = e.platform.stackLimits s.me := X.limits
  have hb9 : (T.setVm s.vm).me.stackBytes = s.me.stackBytes := X.bytes
  refine ⟨X.admits, X.cas, X.clock, hF, ?_, X.hears, X.method, X.code, X.here, X.tail, X.warmed, ?_, ?_, ?_⟩
  · have h := X.room
    have hU : ((T.setVm s.vm).setFrames (.invoking m args :: below)).localsInUse = s.localsInUse := by
      rw [State.localsInUse_invoking hF (meth := meth) (c := c) X.method X.code, State.localsInUse_invoking X.frames X.method X.code]
    simp only [State.hasRoom, Bool.and_eq_true, decide_eq_true_eq] at h ⊢
    obtain ⟨⟨⟨⟨h1, h2, h3, h4, h5, h6⟩, h7⟩, h8⟩, h9⟩ := h
    rw [X.frames, List.length_cons] at h2 h3
    have q1 := X.heapSize
    have q2 := X.used
    simp only [hF, hU, List.length_cons, State.stackLimits_setFrames, State.stackBytes_setFrames, hl9, hb9]
    refine ⟨⟨⟨⟨by omega, by omega, by omega, by omega, by omega, h6⟩, ?_⟩, ?_⟩, X.book⟩
    · show T.heap.size + R'.cells ≤ e.platform.maxCells
      omega
    · show T.slotsUsed + R'.slots ≤ e.platform.maxSlots
      omega
  · rw [State.stackLimits_setFrames]; rfl
  · rw [State.stackBytes_setFrames]; rfl
  · refine ⟨?_, Nat.le_refl _, Nat.le_refl _, ?_, ?_, fun a c9 h9 => ⟨c9, h9, rfl, rfl, fun _ _ => rfl⟩⟩
    · obtain ⟨t, ht, -⟩ := State.frames_cons hr
      show T.setVm s.vm = { ((T.setVm s.vm).setFrames (.invoking m args :: below)).setFrames (T.setVm s.vm).frames with heap := T.heap, slotsUsed := T.slotsUsed }
      rw [State.setFrames_setFrames, State.setFrames_self ht]
      rfl
    · show T.slotsUsed = T.slotsUsed + ((T.heap.toList.drop T.heap.size).map (·.slots.size)).sum
      rw [List.drop_eq_nil_of_le (Nat.le_of_eq Array.length_toList)]
      rfl
    · show ((T.heap.toList.drop T.heap.size).map (·.slots.size)).sum ≤ 0
      rw [List.drop_eq_nil_of_le (Nat.le_of_eq Array.length_toList)]
      exact Nat.le_refl _
/-- 'throw new E()': new; dup; invokespecial; athrow -/
theorem vx_throw0 {cc : ByteArray} {pc : Nat} (hexec : p.tables.exec = Jvm.exec) (hb : c.code = cc) (hl : l.stackTraces = false) {own cls : String} {names : List String} {ik ic mc ms : Nat} {A : Nat → Prop}
    (hown : s.vm.findClass own = some m.cls) (hcls : Bundle.fit cls = true) (hnames : ∀ n ∈ names, Bundle.fit n = true)
    (hk : (Cond.classLink own ik cls).before args s = true) (hini : (Cond.initialized cls).before args s = true) (hat : ∀ w ∈ vx_at0 own ic cls names, w.before args s = true)
    (hgood : ∀ w ∈ Cond.classLink own ik cls :: Cond.initialized cls :: vx_at0 own ic cls names, vx_ot w = true)
    (hU : vx_Zq Bundle.tN "UNASSIGNED_STACK" Bundle.steD A s s.heap) (hN : vx_Zq Bundle.tN "SUPPRESSED_SENTINEL" Bundle.listD A s s.heap) (hS : va_S A s.heap H locs) (hsize : ls.size = c.maxLocals)
    (d0 : decode cc pc = .ok (.new ik, 3)) (d3 : decode cc (pc + 3) = .ok (.dup, 1)) (d4 : decode cc (pc + 4) = .ok (.invokespecial ic, 3)) (d7 : decode cc (pc + 7) = .ok (.athrow, 1))
    (hout : ∀ x ∈ c.exceptionTable.toList, covers x (pc + 7) = false)
    (hRframes : names.length + 3 < R.frames) (hRlocals : (rest.map fun v => v.category).sum + (13 * (names.length + 1) + 42) ≤ R.locals) (hRcells : cells + 1 ≤ R.cells) (hRslots : slots + 6 ≤ R.slots) (hlocks : meth.locks = false)
    (hx : ∀ t : State, s.vm.Alike t.vm → H.size ≤ t.heap.size → (∀ q : Nat, q < H.size → t.heap[q]? = H[q]?) → XC cls s t)
    (hf : ∀ z ∈ locs, free z.base) (hc : cells + 1 ≤ mc) (hs : slots + 6 ≤ ms) :
    W p l e R s m args below meth c H locs cells slots (vx_MQ below Qc XC args s mc ms free) (F0 m pc ls rest) := by
  intro T hT X
  have htr : e.platform.stackTraces = false := (show e.platform.stackTraces = l.stackTraces by rw [X.admits.platform]).trans hl
  have Y := vx_rebase X (R' := { frames := R.frames, locals := R.locals, cells := 1, slots := 6 }) (Nat.le_refl _) (Nat.le_refl _) hRcells hRslots
  obtain ⟨s', hA⟩ : ∃ z, z = (T.setVm s.vm).setFrames (.invoking m args :: below) := ⟨_, rfl⟩
  rw [← hA] at Y
  have hvm : s'.vm = s.vm := by rw [hA]; rfl
  have hhp : s'.heap = H := by rw [hA]; exact hT
  have hW0 : s.WarmedH s'.vm := by rw [hvm]; exact State.WarmedH.refl s
  have hat' : ∀ w ∈ vx_at0 own ic cls names, w.before args s' = true := fun w hw => vx_ot_at hW0 hvm.symm (hgood w (List.mem_cons_of_mem _ (List.mem_cons_of_mem _ hw))) (hat w hw)
  have hk' : (Cond.classLink own ik cls).before args s' = true := vx_ot_at hW0 hvm.symm (hgood _ List.mem_cons_self) hk
  have hini' : (Cond.initialized cls).before args s' = true := vx_ot_at hW0 hvm.symm (hgood _ (List.mem_cons_of_mem _ List.mem_cons_self)) hini
  have hU' : vx_Zq Bundle.tN "UNASSIGNED_STACK" Bundle.steD A s' s'.heap := by rw [hhp]; exact vx_Zq.moved hW0.alike (hU.kept hS.2.1)
  have hN' : vx_Zq Bundle.tN "SUPPRESSED_SENTINEL" Bundle.listD A s' s'.heap := by rw [hhp]; exact vx_Zq.moved hW0.alike (hN.kept hS.2.1)
  have h : ∀ w ∈ Bundle.ownAtoms0 own ic cls names, w.before args s' = true := vx_own hat' (vx_isRefq hU'.1) (vx_isRefq hN'.1) hU'.2.word hN'.2.word
  have hown' : s'.vm.findClass own = some m.cls := by rw [hvm]; exact hown
  have hins : (Cond.instantiable cls 6).before args s' = true := h _ (by simp [Bundle.ownAtoms0])
  obtain ⟨vm₁, cX, kX, hfX, hkX, -, -, X₁, st1⟩ := Y.newCold hexec (own := own) (C := cls) (index := ik) (n := 6) hown' hk' hins hini'
    (g := F0 m pc ls rest) rfl (by rw [hb]; exact d0) (Nat.le_refl _) (Nat.le_refl _)
  generalize hT1 : (T.setVm vm₁).pushCell { cls := cX, slots := kX.instanceTypes.map defaultValue, vm := .none } = T1 at X₁ st1
  have hcat : (Value.ref T.heap.size).category = 1 := rfl
  have hcellA : T1.heap[T.heap.size]? = some (freshCell cX kX) := by rw [← hT1]; exact State.heap_pushCell_size _ _
  have d3' : decode c.code (pc + 3) = .ok (.dup, 1) := by rw [hb]; exact d3
  obtain ⟨U, hsteps, hrun, hend, hW, hsame, ce, hce, hO⟩ := X₁.ctorThrow0 hexec htr (own := own) (cls := cls) (names := names) (ic := ic) hown' hcls hnames h (fun x hx => nomatch hx) hfX hkX hcellA (by rw [hhp, hT]; exact Nat.le_refl _)
    (g := { method := m, pc := pc + 4, locals := ls, stack := .ref T.heap.size :: .ref T.heap.size :: rest, locked := none }) rfl hsize rfl rfl (rest := rest) rfl
    (by rw [hb]; exact d4) (by rw [hb]; exact d7) hout hRframes (by simp only [List.map_cons, List.sum_cons, hcat]; omega) hlocks
  obtain ⟨f1, f2⟩ := vx_frame hsame
  rw [hhp] at f1 f2
  have hWs : s.WarmedH U.vm := State.WarmedH.trans hW0 hW
  have hcl : s.vm.findClass cls = some ce.cls := by
    have h9 := hO.cls
    rw [hvm] at h9
    exact h9
  have hall : s.sameButNew ({ U with vm := s.vm } : State) locs mc ms := by
    subst hA
    obtain ⟨e1, e2⟩ := hsame
    rw [State.setFrames_setFrames] at e1
    have h2 : (T.setVm s.vm).sameButNew ({ U with vm := s.vm } : State) [] (0 + 1) (0 + 6) := ⟨e1, e2⟩
    have h3 := X.same.trans h2
    rw [List.append_nil] at h3
    exact h3.mono hc hs
  refine ⟨U, ?_, .threw T.heap.size, hrun, hend, Or.inr ⟨T.heap.size, rfl, cls, ce, locs, hx U hWs.alike f1 (fun q hq => f2 q hq (fun z hz => nomatch hz)), hce, hO.vm, hcl, hWs, hall, hf⟩⟩
  refine st1 _ ?_
  show Steps p.tables e below (T1.setTop { method := m, pc := pc + 3, locals := ls, stack := .ref T.heap.size :: rest, locked := none }) _
  jvm_step X₁.here [X₁.here.top, hexec, d3', Value.category]
  exact hsteps
/-- 'throw new E("text")': new; dup; ldc; invokespecial; athrow -/
theorem vx_throwS {cc : ByteArray} {pc : Nat} (hexec : p.tables.exec = Jvm.exec) (hb : c.code = cc) (hl : l.stackTraces = false) {own cls text : String} {names : List String} {ik is ic mc ms sa : Nat} {A : Nat → Prop}
    (hown : s.vm.findClass own = some m.cls) (hcls : Bundle.fit cls = true) (hnames : ∀ n ∈ names, Bundle.fit n = true)
    (hk : (Cond.classLink own ik cls).before args s = true) (hini : (Cond.initialized cls).before args s = true) (hstr : vk_R own is text sa s) (hat : ∀ w ∈ vx_atS own ic cls names, w.before args s = true)
    (hgood : ∀ w ∈ Cond.classLink own ik cls :: Cond.initialized cls :: vx_atS own ic cls names, vx_ot w = true)
    (hU : vx_Zq Bundle.tN "UNASSIGNED_STACK" Bundle.steD A s s.heap) (hN : vx_Zq Bundle.tN "SUPPRESSED_SENTINEL" Bundle.listD A s s.heap) (hS : va_S A s.heap H locs) (hsize : ls.size = c.maxLocals)
    (d0 : decode cc pc = .ok (.new ik, 3)) (d3 : decode cc (pc + 3) = .ok (.dup, 1)) (d4 : decode cc (pc + 4) = .ok (.ldc is, 2)) (d6 : decode cc (pc + 6) = .ok (.invokespecial ic, 3)) (d9 : decode cc (pc + 9) = .ok (.athrow, 1))
    (hout : ∀ x ∈ c.exceptionTable.toList, covers x (pc + 9) = false)
    (hRframes : names.length + 3 < R.frames) (hRlocals : (rest.map fun v => v.category).sum + (13 * (names.length + 1) + 43) ≤ R.locals) (hRcells : cells + 1 ≤ R.cells) (hRslots : slots + 6 ≤ R.slots) (hlocks : meth.locks = false)
    (hx : ∀ t : State, s.vm.Alike t.vm → H.size ≤ t.heap.size → (∀ q : Nat, q < H.size → t.heap[q]? = H[q]?) → XC cls s t)
    (hf : ∀ z ∈ locs, free z.base) (hc : cells + 1 ≤ mc) (hs : slots + 6 ≤ ms) :
    W p l e R s m args below meth c H locs cells slots (vx_MQ below Qc XC args s mc ms free) (F0 m pc ls rest) := by
  intro T hT X
  have htr : e.platform.stackTraces = false := (show e.platform.stackTraces = l.stackTraces by rw [X.admits.platform]).trans hl
  have Y := vx_rebase X (R' := { frames := R.frames, locals := R.locals, cells := 1, slots := 6 }) (Nat.le_refl _) (Nat.le_refl _) hRcells hRslots
  obtain ⟨s', hA⟩ : ∃ z, z = (T.setVm s.vm).setFrames (.invoking m args :: below) := ⟨_, rfl⟩
  rw [← hA] at Y
  have hvm : s'.vm = s.vm := by rw [hA]; rfl
  have hhp : s'.heap = H := by rw [hA]; exact hT
  have hW0 : s.WarmedH s'.vm := by rw [hvm]; exact State.WarmedH.refl s
  have hat' : ∀ w ∈ vx_atS own ic cls names, w.before args s' = true := fun w hw => vx_ot_at hW0 hvm.symm (hgood w (List.mem_cons_of_mem _ (List.mem_cons_of_mem _ hw))) (hat w hw)
  have hk' : (Cond.classLink own ik cls).before args s' = true := vx_ot_at hW0 hvm.symm (hgood _ List.mem_cons_self) hk
  have hini' : (Cond.initialized cls).before args s' = true := vx_ot_at hW0 hvm.symm (hgood _ (List.mem_cons_of_mem _ List.mem_cons_self)) hini
  have hU' : vx_Zq Bundle.tN "UNASSIGNED_STACK" Bundle.steD A s' s'.heap := by rw [hhp]; exact vx_Zq.moved hW0.alike (hU.kept hS.2.1)
  have hN' : vx_Zq Bundle.tN "SUPPRESSED_SENTINEL" Bundle.listD A s' s'.heap := by rw [hhp]; exact vx_Zq.moved hW0.alike (hN.kept hS.2.1)
  have h : ∀ w ∈ Bundle.ownAtoms own ic cls names, w.before args s' = true := vx_own hat' (vx_isRefq hU'.1) (vx_isRefq hN'.1) hU'.2.word hN'.2.word
  have hown' : s'.vm.findClass own = some m.cls := by rw [hvm]; exact hown
  have hins : (Cond.instantiable cls 6).before args s' = true := h _ (by simp [Bundle.ownAtoms])
  obtain ⟨vm₁, cX, kX, hfX, hkX, -, -, X₁, st1⟩ := Y.newCold hexec (own := own) (C := cls) (index := ik) (n := 6) hown' hk' hins hini'
    (g := F0 m pc ls rest) rfl (by rw [hb]; exact d0) (Nat.le_refl _) (Nat.le_refl _)
  generalize hT1 : (T.setVm vm₁).pushCell { cls := cX, slots := kX.instanceTypes.map defaultValue, vm := .none } = T1 at X₁ st1
  have hcat : (Value.ref T.heap.size).category = 1 := rfl
  have hcellA : T1.heap[T.heap.size]? = some (freshCell cX kX) := by rw [← hT1]; exact State.heap_pushCell_size _ _
  have d3' : decode c.code (pc + 3) = .ok (.dup, 1) := by rw [hb]; exact d3
  have d4' : decode c.code (pc + 4) = .ok (.ldc is, 2) := by rw [hb]; exact d4
  have hstr' : vk_R own is text sa s' := vk_R.warm hW0 hstr
  obtain ⟨U, hsteps, hrun, hend, hW, hsame, ce, hce, hO⟩ := X₁.ctorThrowS hexec htr (own := own) (cls := cls) (names := names) (ic := ic) hown' hcls hnames h (fun x hx => nomatch hx) hfX hkX hcellA (by rw [hhp, hT]; exact Nat.le_refl _) (msg := .ref sa) rfl
    (g := { method := m, pc := pc + 6, locals := ls, stack := .ref sa :: .ref T.heap.size :: .ref T.heap.size :: rest, locked := none }) rfl hsize rfl rfl (rest := rest) rfl
    (by rw [hb]; exact d6) (by rw [hb]; exact d9) hout hRframes (by simp only [List.map_cons, List.sum_cons, hcat]; omega) hlocks
  obtain ⟨f1, f2⟩ := vx_frame hsame
  rw [hhp] at f1 f2
  have hWs : s.WarmedH U.vm := State.WarmedH.trans hW0 hW
  have hcl : s.vm.findClass cls = some ce.cls := by
    have h9 := hO.cls
    rw [hvm] at h9
    exact h9
  have hall : s.sameButNew ({ U with vm := s.vm } : State) locs mc ms := by
    subst hA
    obtain ⟨e1, e2⟩ := hsame
    rw [State.setFrames_setFrames] at e1
    have h2 : (T.setVm s.vm).sameButNew ({ U with vm := s.vm } : State) [] (0 + 1) (0 + 6) := ⟨e1, e2⟩
    have h3 := X.same.trans h2
    rw [List.append_nil] at h3
    exact h3.mono hc hs
  refine ⟨U, ?_, .threw T.heap.size, hrun, hend, Or.inr ⟨T.heap.size, rfl, cls, ce, locs, hx U hWs.alike f1 (fun q hq => f2 q hq (fun z hz => nomatch hz)), hce, hO.vm, hcl, hWs, hall, hf⟩⟩
  refine st1 _ ?_
  show Steps p.tables e below (T1.setTop { method := m, pc := pc + 3, locals := ls, stack := .ref T.heap.size :: rest, locked := none }) _
  jvm_step X₁.here [X₁.here.top, hexec, d3', Value.category]
  exact X₁.ldcString hexec (own := own) (text := text) (index := is) (a := sa) hown' hstr'.1 hstr'.2
    (g := { method := m, pc := pc + 4, locals := ls, stack := .ref T.heap.size :: .ref T.heap.size :: rest, locked := none }) rfl d4' _ hsteps
/-- 'throw new E("text")', the text by a wide index -/
theorem vx_throwSW {cc : ByteArray} {pc : Nat} (hexec : p.tables.exec = Jvm.exec) (hb : c.code = cc) (hl : l.stackTraces = false) {own cls text : String} {names : List String} {ik is ic mc ms sa : Nat} {A : Nat → Prop}
    (hown : s.vm.findClass own = some m.cls) (hcls : Bundle.fit cls = true) (hnames : ∀ n ∈ names, Bundle.fit n = true)
    (hk : (Cond.classLink own ik cls).before args s = true) (hini : (Cond.initialized cls).before args s = true) (hstr : vk_R own is text sa s) (hat : ∀ w ∈ vx_atS own ic cls names, w.before args s = true)
    (hgood : ∀ w ∈ Cond.classLink own ik cls :: Cond.initialized cls :: vx_atS own ic cls names, vx_ot w = true)
    (hU : vx_Zq Bundle.tN "UNASSIGNED_STACK" Bundle.steD A s s.heap) (hN : vx_Zq Bundle.tN "SUPPRESSED_SENTINEL" Bundle.listD A s s.heap) (hS : va_S A s.heap H locs) (hsize : ls.size = c.maxLocals)
    (d0 : decode cc pc = .ok (.new ik, 3)) (d3 : decode cc (pc + 3) = .ok (.dup, 1)) (d4 : decode cc (pc + 4) = .ok (.ldc_w is, 3)) (d7 : decode cc (pc + 7) = .ok (.invokespecial ic, 3)) (d10 : decode cc (pc + 10) = .ok (.athrow, 1))
    (hout : ∀ x ∈ c.exceptionTable.toList, covers x (pc + 10) = false)
    (hRframes : names.length + 3 < R.frames) (hRlocals : (rest.map fun v => v.category).sum + (13 * (names.length + 1) + 43) ≤ R.locals) (hRcells : cells + 1 ≤ R.cells) (hRslots : slots + 6 ≤ R.slots) (hlocks : meth.locks = false)
    (hx : ∀ t : State, s.vm.Alike t.vm → H.size ≤ t.heap.size → (∀ q : Nat, q < H.size → t.heap[q]? = H[q]?) → XC cls s t)
    (hf : ∀ z ∈ locs, free z.base) (hc : cells + 1 ≤ mc) (hs : slots + 6 ≤ ms) :
    W p l e R s m args below meth c H locs cells slots (vx_MQ below Qc XC args s mc ms free) (F0 m pc ls rest) := by
  intro T hT X
  have htr : e.platform.stackTraces = false := (show e.platform.stackTraces = l.stackTraces by rw [X.admits.platform]).trans hl
  have Y := vx_rebase X (R' := { frames := R.frames, locals := R.locals, cells := 1, slots := 6 }) (Nat.le_refl _) (Nat.le_refl _) hRcells hRslots
  obtain ⟨s', hA⟩ : ∃ z, z = (T.setVm s.vm).setFrames (.invoking m args :: below) := ⟨_, rfl⟩
  rw [← hA] at Y
  have hvm : s'.vm = s.vm := by rw [hA]; rfl
  have hhp : s'.heap = H := by rw [hA]; exact hT
  have hW0 : s.WarmedH s'.vm := by rw [hvm]; exact State.WarmedH.refl s
  have hat' : ∀ w ∈ vx_atS own ic cls names, w.before args s' = true := fun w hw => vx_ot_at hW0 hvm.symm (hgood w (List.mem_cons_of_mem _ (List.mem_cons_of_mem _ hw))) (hat w hw)
  have hk' : (Cond.classLink own ik cls).before args s' = true := vx_ot_at hW0 hvm.symm (hgood _ List.mem_cons_self) hk
  have hini' : (Cond.initialized cls).before args s' = true := vx_ot_at hW0 hvm.symm (hgood _ (List.mem_cons_of_mem _ List.mem_cons_self)) hini
  have hU' : vx_Zq Bundle.tN "UNASSIGNED_STACK" Bundle.steD A s' s'.heap := by rw [hhp]; exact vx_Zq.moved hW0.alike (hU.kept hS.2.1)
  have hN' : vx_Zq Bundle.tN "SUPPRESSED_SENTINEL" Bundle.listD A s' s'.heap := by rw [hhp]; exact vx_Zq.moved hW0.alike (hN.kept hS.2.1)
  have h : ∀ w ∈ Bundle.ownAtoms own ic cls names, w.before args s' = true := vx_own hat' (vx_isRefq hU'.1) (vx_isRefq hN'.1) hU'.2.word hN'.2.word
  have hown' : s'.vm.findClass own = some m.cls := by rw [hvm]; exact hown
  have hins : (Cond.instantiable cls 6).before args s' = true := h _ (by simp [Bundle.ownAtoms])
  obtain ⟨vm₁, cX, kX, hfX, hkX, -, -, X₁, st1⟩ := Y.newCold hexec (own := own) (C := cls) (index := ik) (n := 6) hown' hk' hins hini'
    (g := F0 m pc ls rest) rfl (by rw [hb]; exact d0) (Nat.le_refl _) (Nat.le_refl _)
  generalize hT1 : (T.setVm vm₁).pushCell { cls := cX, slots := kX.instanceTypes.map defaultValue, vm := .none } = T1 at X₁ st1
  have hcat : (Value.ref T.heap.size).category = 1 := rfl
  have hcellA : T1.heap[T.heap.size]? = some (freshCell cX kX) := by rw [← hT1]; exact State.heap_pushCell_size _ _
  have d3' : decode c.code (pc + 3) = .ok (.dup, 1) := by rw [hb]; exact d3
  have d4' : decode c.code (pc + 4) = .ok (.ldc_w is, 3) := by rw [hb]; exact d4
  have hstr' : vk_R own is text sa s' := vk_R.warm hW0 hstr
  obtain ⟨U, hsteps, hrun, hend, hW, hsame, ce, hce, hO⟩ := X₁.ctorThrowS hexec htr (own := own) (cls := cls) (names := names) (ic := ic) hown' hcls hnames h (fun x hx => nomatch hx) hfX hkX hcellA (by rw [hhp, hT]; exact Nat.le_refl _) (msg := .ref sa) rfl
    (g := { method := m, pc := pc + 7, locals := ls, stack := .ref sa :: .ref T.heap.size :: .ref T.heap.size :: rest, locked := none }) rfl hsize rfl rfl (rest := rest) rfl
    (by rw [hb]; exact d7) (by rw [hb]; exact d10) hout hRframes (by simp only [List.map_cons, List.sum_cons, hcat]; omega) hlocks
  obtain ⟨f1, f2⟩ := vx_frame hsame
  rw [hhp] at f1 f2
  have hWs : s.WarmedH U.vm := State.WarmedH.trans hW0 hW
  have hcl : s.vm.findClass cls = some ce.cls := by
    have h9 := hO.cls
    rw [hvm] at h9
    exact h9
  have hall : s.sameButNew ({ U with vm := s.vm } : State) locs mc ms := by
    subst hA
    obtain ⟨e1, e2⟩ := hsame
    rw [State.setFrames_setFrames] at e1
    have h2 : (T.setVm s.vm).sameButNew ({ U with vm := s.vm } : State) [] (0 + 1) (0 + 6) := ⟨e1, e2⟩
    have h3 := X.same.trans h2
    rw [List.append_nil] at h3
    exact h3.mono hc hs
  refine ⟨U, ?_, .threw T.heap.size, hrun, hend, Or.inr ⟨T.heap.size, rfl, cls, ce, locs, hx U hWs.alike f1 (fun q hq => f2 q hq (fun z hz => nomatch hz)), hce, hO.vm, hcl, hWs, hall, hf⟩⟩
  refine st1 _ ?_
  show Steps p.tables e below (T1.setTop { method := m, pc := pc + 3, locals := ls, stack := .ref T.heap.size :: rest, locked := none }) _
  jvm_step X₁.here [X₁.here.top, hexec, d3', Value.category]
  exact X₁.ldcStringW hexec (own := own) (text := text) (index := is) (a := sa) hown' hstr'.1 hstr'.2
    (g := { method := m, pc := pc + 4, locals := ls, stack := .ref T.heap.size :: .ref T.heap.size :: rest, locked := none }) rfl d4' _ hsteps
end Ends
section Bodies
variable {l : Launch}
theorem vx_ofW {y : MethodName} {ws ws' : List Cond} {rm : Room} {Pc : Array Value → State → Prop} {Qc : Array Value → State → Outcome → State → Prop} {XC : String → State → State → Prop} {mc ms : Nat} {free : Addr → Prop} {cc : ByteArray} {maxL : Nat} {ret : Option FieldType}
    (hy : plainName y.cls = true) (hw : ws = Cond.code y cc maxL ret :: ws')
    (body : ∀ p e s m args below meth c s₁, BodyLoose p l y (headSpec ws rm) cc maxL ret e s m args below meth c s₁ → c.maxLocals = maxL → (∀ x ∈ c.exceptionTable.toList, False) → Pc args s →
      W p l e (headSpec ws rm).room s m args below meth c s.heap [] 0 0 (vx_MQ below Qc XC args s mc ms free) (entryFrame m args maxL)) : vx_Met l y ws rm Pc Qc XC mc ms free := by
  refine MetFree.of_bodyS (code := cc) (maxLocals := maxL) (ret := ret) hy ?_ ?_
  · intro args s m h hn
    obtain ⟨meth, c, h1, h2, h3, h4, h5, h6, -, -⟩ := Cond.code_spec hn (atoms_spec (ws := ws) h _ (by rw [hw]; exact List.mem_cons_self))
    exact ⟨meth, c, h1, h2, h3, h4, h5, h6⟩
  · intro p e s m args below meth c s₁ B hml hP _
    have hh0 : s₁.heap = s.heap := by rw [B.state]; rfl
    have ht : ∀ x ∈ c.exceptionTable.toList, False := by
      obtain ⟨meth9, c9, h1, h2, -, -, -, -, h7, -⟩ := Cond.code_spec B.named (atoms_spec (ws := ws) B.pre _ (by rw [hw]; exact List.mem_cons_self))
      cases Option.some.inj (h1.symm.trans B.method)
      cases Option.some.inj (h2.symm.trans (Stand.of_body B).code)
      intro x hx
      rw [Array.isEmpty_iff.mp h7] at hx
      cases hx
    obtain ⟨t, a1, o, b1, b2, b3⟩ := body p e s m args below meth c s₁ B hml ht hP s₁ hh0 (Stand.of_body B)
    exact ⟨t, o, a1, b1, b2, b3⟩
/-- the table of a body with handlers -/
theorem vx_table {p : Program} {x y : MethodName} {S : Spec} {cc bytes : ByteArray} {maxL maxL' : Nat} {ret ret' : Option FieldType} {e : Env} {s s₁ : State} {m : MethodId} {args : Array Value} {below : List Frame} {meth : Method} {c : Code} {hh : List (Nat × Nat × Nat × Nat)}
    (B : BodyLoose p l y S cc maxL ret e s m args below meth c s₁) (h : (Cond.codeWith y bytes maxL' ret' hh).before args s = true) : c.exceptionTable.toList = tableOf hh := by
  obtain ⟨m9, meth9, c9, hn9, h1, h2, -, -, h6, -⟩ := Cond.codeWith_spec h
  cases Option.some.inj (hn9.symm.trans B.named)
  cases Option.some.inj (h1.symm.trans B.method)
  cases Option.some.inj (h2.symm.trans (Stand.of_body B).code)
  rw [← h6, table_eq]
end Bodies
end VXA
/-! ===== END ===== -/
/-! ===== BEGIN a static call of a method with an exception table ===== -/
section VXS
variable {p : Program} {l : Launch} {e : Env} {R : Room} {s : State} {m : MethodId} {args : Array Value} {below : List Frame} {meth : Method} {c : Code} {T : State} {H : Heap} {locs : List Loc} {cells slots : Nat}
abbrev vx_CSW (R : Room) (s : State) (args : Array Value) (own : String) (index : Nat) (y : MethodName) (bytes : ByteArray) (maxL : Nat) (ret : Option FieldType) (hh : List (Nat × Nat × Nat × Nat)) (ws : List Cond) (rm : Room) (mc ms n : Nat) : Prop :=
  (rm.cells = mc ∧ rm.slots = ms ∧ rm.frames + 1 ≤ R.frames ∧ 8 + (maxL + 11) + rm.locals ≤ R.locals ∧ (∀ w ∈ ws, ∀ (a' : Array Value) (U : State), s.WarmedH U.vm → w.before a' U = true) ∧ Cond.codeWith y bytes maxL ret hh ∈ ws) ∧
  (Cond.codeWith y bytes maxL ret hh).before args s = true ∧ (Cond.initialized y.cls).before args s = true ∧ (y.cls ≠ "java/lang/invoke/MethodHandle" ∧ y.cls ≠ "java/lang/invoke/VarHandle") ∧
  (∀ sig, parseMethodDescriptor y.desc = some sig → n = sig.parameters.length) ∧ (Cond.methodLink own index y).before args s = true ∧ (Cond.static y).before args s = true
theorem vx_cwSW {own : String} {index maxL mc ms : Nat} {y : MethodName} {bytes : ByteArray} {ret : Option FieldType} {hh : List (Nat × Nat × Nat × Nat)} {Ts ws ws' : List Cond} {rm : Room} (n : Nat) (ht : ∀ w ∈ Ts, w.before args s = true) (hT : GoodIn Ts (va_wsS own index y ws)) (hw : ws = Cond.codeWith y bytes maxL ret hh :: ws') (hrc : rm.cells = mc) (hrs : rm.slots = ms)
    (hd : y.cls ≠ "java/lang/invoke/MethodHandle" ∧ y.cls ≠ "java/lang/invoke/VarHandle" ∧ (parseMethodDescriptor y.desc).map (fun d => d.parameters.length) = some n) (hR : rm.frames + 1 ≤ R.frames ∧ 8 + (maxL + 11) + rm.locals ≤ R.locals) :
    vx_CSW R s args own index y bytes maxL ret hh ws rm mc ms n := by
  have ok : ∀ w ∈ va_wsS own index y ws, w.before args s = true := fun w h => ht w (hT w h).1
  have hG : GoodIn Ts ws := fun w h => hT w (by unfold va_wsS; exact List.mem_append_right _ h)
  have hc : Cond.codeWith y bytes maxL ret hh ∈ ws := by rw [hw]; exact List.mem_cons_self
  refine ⟨⟨hrc, hrs, hR.1, hR.2, pay_in ht hG, hc⟩, ht _ (hG _ hc).1, ok _ (by simp [va_wsS]), ⟨hd.1, hd.2.1⟩, fun sig h => ?_, ok _ (by simp [va_wsS]), ok _ (by simp [va_wsS])⟩
  have h2 := hd.2.2
  rw [h] at h2
  exact (Option.some.inj h2).symm
theorem vx_callSW (X : Stand p l e R s m args below meth c T locs cells slots) (hexec : p.tables.exec = Jvm.exec) {own : String} {index : Nat} {y : MethodName} {bytes : ByteArray} {maxL : Nat} {ret : Option FieldType} {hh : List (Nat × Nat × Nat × Nat)}
    (hown : s.vm.findClass own = some m.cls) (hlink : (Cond.methodLink own index y).before args s = true) (hstat : (Cond.static y).before args s = true) (hinit : (Cond.initialized y.cls).before args s = true)
    (hcode : (Cond.codeWith y bytes maxL ret hh).before args s = true) (hy : y.cls ≠ "java/lang/invoke/MethodHandle" ∧ y.cls ≠ "java/lang/invoke/VarHandle")
    {W9 : Nat} {Pre : Pt → Array Value → Prop} {Post : Pt → Array Value → Option Value → Pt → Prop} (hK : Back l R p e below s args y 3 W9 Pre Post)
    {g : JFrame} (hg : g.method = m) (hsize : g.locals.size = c.maxLocals) {argsL rest : List Value} (hlen : ∀ sig, parseMethodDescriptor y.desc = some sig → argsL.length = sig.parameters.length)
    (hstack : g.stack = argsL.reverse ++ rest) (hW : 2 * g.monitorRoom + (rest.map fun v => v.category).sum ≤ W9) (hdg : decode c.code g.pc = .ok (.invokestatic index, 3))
    (hpre : ∀ vm₁, s.WarmedH vm₁ → Pre ⟨T.setVm vm₁, locs, cells, slots⟩ argsL.toArray) :
    ∃ (v : Option Value) (vm₁ : Vm) (B : Pt), s.WarmedH vm₁ ∧ Stand p l e R s m args below meth c B.U B.locs B.cells B.slots ∧ Post ⟨T.setVm vm₁, locs, cells, slots⟩ argsL.toArray v B ∧
      ∀ target, Steps p.tables e below (B.U.setTop { g with pc := g.pc + 3, stack := v.toList ++ rest }) target → Steps p.tables e below (T.setTop g) target := by
  obtain ⟨mk, methM, cM, hnamed, hmethM, -, -, -, -, -, -, hsigM⟩ := Cond.codeWith_spec hcode
  have hstatic : methM.isStatic = true := Cond.static_spec hnamed hmethM hstat
  obtain ⟨kP, hkP, -⟩ := className_of_methodNamed hnamed
  have hinitP : kP.init = .initialized := Cond.initialized_spec (findClass_of_methodNamed hnamed) hkP hinit
  obtain ⟨vm₁, X₁, hstep₁⟩ := X.invokestatic hexec hown hlink hnamed hmethM hstatic hkP hinitP hy (g := g) hg (argsL := argsL) (rest := rest) (hlen _ hsigM) hstack hdg
  obtain ⟨v, B, X', hpost, hsteps⟩ := hK m meth c ⟨T.setVm vm₁, locs, cells, slots⟩ { g with stack := rest } (.invokestatic index) mk argsL.toArray X₁ hg hsize hdg hW (X₁.named hnamed) (hpre vm₁ X₁.warmed)
  exact ⟨v, vm₁, B, X₁.warmed, X', hpost, fun target h => hstep₁ _ fun acts => by rw [doInvoke_state]; exact hsteps.trans h⟩
theorem vx_runSW {y : MethodName} {bytes cc : ByteArray} {maxL nL mc ms n index : Nat} {ret : Option FieldType} {hh : List (Nat × Nat × Nat × Nat)} {ws : List Cond} {rm : Room} {Pc : Array Value → State → Prop} {Qc : Array Value → State → Outcome → State → Prop} {free : Addr → Prop} {Ts : List Cond} {own : String} {As rest : List Value} {g : JFrame}
    (S : CallFix p m c cc nL s args Ts own) (hM : Met l y ws rm Pc Qc mc ms free) (cw : vx_CSW R s args own index y bytes maxL ret hh ws rm mc ms n) (hp : PreS s H Pc As)
    (hg : g.method = m) (hn : As.length = n) (hsize : g.locals.size = nL) (hstack : g.stack = As.reverse ++ rest) (hW : 2 * g.monitorRoom + (rest.map fun v => v.category).sum ≤ 8) (hdg : decode cc g.pc = .ok (.invokestatic index, 3)) (hf : cells + mc ≤ R.cells ∧ slots + ms ≤ R.slots) :
    va_Run p l e R s m args below meth c H locs cells slots mc ms g rest (Qc As.toArray) (free) := by
  obtain ⟨⟨hrc, hrs, hfr, hlo, hws, hcw⟩, hcode, hini, hy, hlen, hl, hstt⟩ := cw
  have hK : Back l R p e below s args y 3 8 (PreOf R mc ms Pc) (PostOf Qc mc ms free) := va_backW (hh := hh) (bytes := bytes) (maxL := maxL) (ret := ret) hM hp.1 hrc hrs hfr hlo hws hcw (fun a' U hW => word_at hW (Or.inl (by first | rfl | simp [Cond.onTables, Cond.keeps, Cond.steady])) hini)
  obtain ⟨hx, hb, hml, ho, -⟩ := S
  intro T hT X
  obtain ⟨v, vm₁, ⟨U', l2, c2, s2⟩, hW₁, X', ⟨g', mk, t, L, e1, e2, hq, h1, hL, h2, h3⟩, st⟩ := vx_callSW X hx (hh := hh) (bytes := bytes) (maxL := maxL) (ret := ret) ho hl hstt hini hcode hy hK hg (hsize.trans hml.symm) (argsL := As) (rest := rest) (fun sig h => hn.trans (hlen sig h)) hstack hW (by rw [hb]; exact hdg)
    (fun vm₁ hW₁ => ⟨hf.1, hf.2, hp.2 (T.setVm vm₁) hT hW₁⟩)
  dsimp only [Pt.U, Pt.locs, Pt.cells, Pt.slots] at X' e1 e2 h1 h2 h3 st
  subst h1; subst h2; subst h3
  exact ⟨v, (T.setVm vm₁).calling g' mk As.toArray, t, U', L, hT, X', hL, e1, e2, hq, st⟩
/-- not caught here, past rows that name other classes: it goes on to the caller -/
theorem vx_outP {p : Program} {l : Launch} {e : Env} {R : Room} {s : State} {m : MethodId} {args : Array Value} {below : List Frame} {meth : Method} {c : Code} {H : Heap} {locs : List Loc} {cells slots : Nat} {free : Addr → Prop} {ls : Array Slot} {rest : List Value} {Qc : Array Value → State → Outcome → State → Prop} {XC : String → State → State → Prop}
    {pc : Nat} {own E : String} {ce : Cell} {q : Addr} {mc ms : Nat} (hown : s.vm.findClass own = some m.cls) (hlocks : meth.locks = false)
    (hpass : ∀ z ∈ c.exceptionTable.toList, covers z pc = false ∨ (z.catchType ≠ 0 ∧ ∃ nm : String, (Cond.classLink own z.catchType nm).before args s = true ∧ va_Nc E nm s)) (hcell : H[q]? = some ce) (hv : ce.vm = .none) (hcl : s.vm.findClass E = some ce.cls)
    (hx : ∀ t : State, t.heap = H → s.vm.Alike t.vm → XC E s t) (hf : ∀ z ∈ locs, free z.base) (hc : cells ≤ mc) (hs : slots ≤ ms) :
    vx_W p l e R s m args below meth c H locs cells slots (vx_MQ below Qc XC args s mc ms free) (F0 m pc ls rest) q := by
  intro T hT X
  have hpl : e.platform.magicAccessors = ({} : Platform).magicAccessors := by rw [X.admits.platform]
  obtain ⟨vm', hW', X', st⟩ := X.outThrough hlocks q (g := F0 m pc ls rest) rfl rfl rfl (cell := ce) (by rw [hT]; exact hcell) (by rw [hv]; rfl)
    (by obtain ⟨k9, h9, -⟩ := Vm.findClass_spec hcl; exact ⟨k9, h9⟩) (fun z hz => by
      rcases hpass z hz with h | ⟨hz0, nm, hl1, hn1⟩
      · exact Or.inl h
      · obtain ⟨c6, hc6, hcl6⟩ := Cond.classLink_spec hown hl1 e.platform hpl
        obtain ⟨a8, b8, h1, h2, h3⟩ := hn1
        cases Option.some.inj (h1.symm.trans hcl)
        cases Option.some.inj (h2.symm.trans hc6)
        exact Or.inr ⟨hz0, _, hcl6, h3⟩)
  obtain ⟨g₀, hfr⟩ := X'.frames_eq
  have hcell9 : ((T.setVm vm').setFrames (.throwing q :: below)).heap[q]? = some ce := by
    show T.heap[q]? = some ce
    rw [hT]; exact hcell
  have hend : Ended ((T.setVm vm').setFrames (.throwing q :: below)) below (.threw q) := State.frames_setFrames _ (State.cur_lt_of_frames hfr)
  refine ⟨(T.setVm vm').setFrames (.throwing q :: below), ?_, .threw q, X'.here.running, hend, Or.inr ⟨q, rfl, E, ce, locs, hx _ hT (X'.ends _).1.alike, hcell9, hv, hcl, (X'.ends _).1, (X'.ends _).2.mono hc hs, hf⟩⟩
  rw [X.pushThrowing_eq]
  exact st
/-- a thing of a world lies in the heap -/
theorem vx_lt {D : va_G} {cl : List vw_C} {ws : va_W} {H1 : Heap} (h : va_P D cl ws H1) {k : Nat} {q : Nat × va_E} (hk : ws[k]? = some q) : q.1 < H1.size := (h k q hk).lt
end VXS
/-! ===== END ===== -/
/-! ===== BEGIN methods with a table of their own: called by a name, returning or throwing ===== -/
section VXH
/-! vx_backW, vx_callVX, vx_callSX, vx_callVW, vx_runVW, vx_runVX, vx_runSX, vx_ofWH follow the same proofs as their sisters above (Free/Laws.lean, Shelf42/LK1.lean); vx_outP calls Shelf42/NT130.lean (outThrough). -/
section
variable {l : Launch} {R : Room} {p : Program} {e : Env} {below : List Frame} {s : State} {sargs : Array Value} {y : MethodName} {len W9 : Nat}
theorem vx_backW {ws : List Cond} {rm : Room} {Pc : Array Value → State → Prop} {Qc : Array Value → State → Outcome → State → Prop} {XC : String → State → State → Prop} {mc ms : Nat} {free : Addr → Prop} {bytes : ByteArray} {maxL : Nat} {ret : Option FieldType} {hh : List (Nat × Nat × Nat × Nat)}
    (hM : vx_Met l y ws rm Pc Qc XC mc ms free) (hblind : FrameBlind Pc) (hrc : rm.cells = mc) (hrs : rm.slots = ms)
    (hframes : rm.frames + 1 ≤ R.frames) (hlocals : W9 + (maxL + 11) + rm.locals ≤ R.locals)
    (hws : ∀ w ∈ ws, ∀ a' U, s.WarmedH U.vm → w.before a' U = true) (hcode : Cond.codeWith y bytes maxL ret hh ∈ ws) (hinit : ∀ a' U, s.WarmedH U.vm → (Cond.initialized y.cls).before a' U = true) :
    vx_Back l R p e below s sargs y len W9 (PreOf R mc ms Pc) (PostOf Qc mc ms free) (vx_Post XC mc ms free) := by
  intro m meth c A g ig mk a X hg hsize hdg hW hn hp
  have h1 : (headSpec ws rm).pre.before a A.U = true := atoms_intro fun w hw => hws w hw _ _ X.warmed
  have h2 : (Cond.codeWith y bytes maxL ret hh).before a A.U = true := hws _ hcode _ _ X.warmed
  have h3 : (Cond.initialized y.cls).before a A.U = true := hinit _ _ X.warmed
  have h4 : A.cells + (headSpec ws rm).room.cells ≤ R.cells := by rw [show (headSpec ws rm).room.cells = mc from hrc]; exact hp.1
  have h5 : A.slots + (headSpec ws rm).room.slots ≤ R.slots := by rw [show (headSpec ws rm).room.slots = ms from hrs]; exact hp.2.1
  have hPc : Pc a (A.U.calling g mk a) := hblind _ _ _ _ hp.2.2
  obtain ⟨U, Ls, c0, s0⟩ := A
  dsimp only [Pt.U, Pt.locs, Pt.cells, Pt.slots] at h1 h2 h3 h4 h5 X hn hPc ⊢
  obtain ⟨m9, methY, cY, hn9, hmY, hcY, -, hlY, -⟩ := Cond.codeWith_spec h2
  cases Option.some.inj (hn9.symm.trans hn)
  obtain ⟨kY, hkY, -⟩ := className_of_methodNamed hn
  have hinitY : kY.init = .initialized := Cond.initialized_spec (findClass_of_methodNamed hn) hkY h3
  have h : At U g.method c below := by rw [hg]; exact X.here
  have hlocals9 : W9 + (maxL + 11) + (headSpec ws rm).room.locals ≤ R.locals := hlocals
  have happ : (headSpec ws rm).appliesLoose y e.platform (U.calling g mk a) = true :=
    Spec.appliesLoose_calling (g := g) h hdg hn hkY hinitY
      (X.room_calling (g := g) (R' := (headSpec ws rm).room) hsize hmY hcY hframes (by rw [hlY]; omega) h4 h5) h1
  obtain ⟨mid, hmid⟩ := h.above
  have hfr : (U.setTop g).frames = (.java g :: mid) ++ below := by rw [State.frames_setTop' g h.top, hmid]; rfl
  obtain ⟨o, s₂, hsteps, -, hend, hq⟩ := Steps.callFree hM p X.admits X.cas X.clock (acts := []) hfr happ hPc trivial
  have hq' : vx_Q Qc XC mc ms free a (U.calling g mk a) o s₂ := hq
  rw [State.frames_setTop' g h.top] at hend
  obtain ⟨g₀, hg0⟩ := Option.isSome_iff_exists.mp h.top
  obtain ⟨r, hr⟩ := State.topJava?_eq_some.mp hg0
  have hr' : (({ U with heap := s₂.heap, slotsUsed := s₂.slotsUsed } : State).setVm s₂.vm).frames = .java g₀ :: r := hr
  rcases hq' with ⟨hqc, L, hfe, hL⟩ | ⟨q, rfl, E, ce, L, hx, hce, hcv, hcl, hW₂, hsm, hL⟩
  · obtain ⟨⟨v, rfl⟩, hW₂, e2, q2, q3, q4, q5, q6⟩ := id hfe
    have e3 : s₂ = ({ (U.calling g mk a).setFrames s₂.frames with heap := s₂.heap, slotsUsed := s₂.slotsUsed } : State).setVm s₂.vm := by
      have : s₂ = ({ s₂ with vm := (U.calling g mk a).vm } : State).setVm s₂.vm := rfl
      rw [e2] at this
      exact this
    obtain ⟨c₂, i₂, len₂, hc₂, hd₂, hf₂⟩ := hend
    have hW' : U.WarmedH s₂.vm := hW₂
    have hcc : c₂ = c := by
      have h1 : s₂.code? g.method = U.code? g.method := by
        rw [State.code?_eq, State.code?_eq, hW'.alike.method?]
      exact Option.some.inj (hc₂.symm.trans (h1.trans h.code))
    subst hcc
    have hlen : len₂ = len := by rw [hdg] at hd₂; cases hd₂; rfl
    subst hlen
    have hs₂ : s₂ = (({ U with heap := s₂.heap, slotsUsed := s₂.slotsUsed } : State).setVm s₂.vm).setTop { g with pc := g.pc + len₂, stack := v.toList ++ g.stack } := by
      refine e3.trans ?_
      rw [hf₂, State.calling_eq h.top, State.setFrames_setFrames, State.setTop_of_frames _ hr', hr]
      rfl
    have hsame : U.sameButNew ({ U with heap := s₂.heap, slotsUsed := s₂.slotsUsed } : State) L mc ms := by
      refine ⟨?_, q2, q3, q4, q5, q6⟩
      obtain ⟨t, ht, -⟩ := State.frames_cons hr
      show ({ U with heap := s₂.heap, slotsUsed := s₂.slotsUsed } : State) = { U.setFrames U.frames with heap := s₂.heap, slotsUsed := s₂.slotsUsed }
      rw [State.setFrames_self ht]
    subst hg
    refine Or.inl ⟨v, ⟨(({ U with heap := s₂.heap, slotsUsed := s₂.slotsUsed } : State).setVm s₂.vm), Ls ++ L, c0 + mc, s0 + ms⟩,
      ⟨X.admits, X.cas, X.clock, X.frames, X.room, X.hears, X.method, X.code, (X.here.setHeapUsed s₂.heap s₂.slotsUsed).setVm hW'.alike, X.tail, State.WarmedH.trans X.warmed hW', X.limits, X.bytes, X.same.trans (hsame.setVm s.vm)⟩,
      ⟨g, mk, s₂, L, rfl, rfl, hqc, rfl, hL, rfl, rfl⟩, ?_⟩
    show Steps p.tables e below _ ((({ U with heap := s₂.heap, slotsUsed := s₂.slotsUsed } : State).setVm s₂.vm).setTop { g with pc := g.pc + len₂, stack := v.toList ++ g.stack })
    rw [← hs₂]
    exact hsteps
  · obtain ⟨e2, q2, q3, q4, q5, q6⟩ := id hsm
    have e3 : s₂ = ({ (U.calling g mk a).setFrames s₂.frames with heap := s₂.heap, slotsUsed := s₂.slotsUsed } : State).setVm s₂.vm := by
      have : s₂ = ({ s₂ with vm := (U.calling g mk a).vm } : State).setVm s₂.vm := rfl
      rw [e2] at this
      exact this
    have hf₂ : s₂.frames = .throwing q :: .java g :: U.frames.tail := hend
    have hW' : U.WarmedH s₂.vm := hW₂
    have hs₂ : s₂ = ((({ U with heap := s₂.heap, slotsUsed := s₂.slotsUsed } : State).setVm s₂.vm).setTop g).pushFrame (.throwing q) := by
      refine e3.trans ?_
      rw [hf₂, State.calling_eq h.top, State.setFrames_setFrames, State.pushFrame, State.frames_setTop _ hr', State.setTop_of_frames _ hr', State.setFrames_setFrames, hr]
      rfl
    have hsame : U.sameButNew ({ U with heap := s₂.heap, slotsUsed := s₂.slotsUsed } : State) L mc ms := by
      refine ⟨?_, q2, q3, q4, q5, q6⟩
      obtain ⟨t, ht, -⟩ := State.frames_cons hr
      show ({ U with heap := s₂.heap, slotsUsed := s₂.slotsUsed } : State) = { U.setFrames U.frames with heap := s₂.heap, slotsUsed := s₂.slotsUsed }
      rw [State.setFrames_self ht]
    subst hg
    refine Or.inr ⟨q, ⟨(({ U with heap := s₂.heap, slotsUsed := s₂.slotsUsed } : State).setVm s₂.vm), Ls ++ L, c0 + mc, s0 + ms⟩,
      ⟨X.admits, X.cas, X.clock, X.frames, X.room, X.hears, X.method, X.code, (X.here.setHeapUsed s₂.heap s₂.slotsUsed).setVm hW'.alike, X.tail, State.WarmedH.trans X.warmed hW', X.limits, X.bytes, X.same.trans (hsame.setVm s.vm)⟩,
      ⟨g, mk, s₂, L, E, ce, rfl, rfl, hx, hce, hcv, hcl, rfl, hL, rfl, rfl⟩, ?_⟩
    show Steps p.tables e below _ (((({ U with heap := s₂.heap, slotsUsed := s₂.slotsUsed } : State).setVm s₂.vm).setTop g).pushFrame (.throwing q))
    rw [← hs₂]
    exact hsteps
end
variable {p : Program} {l : Launch} {e : Env} {R : Room} {s : State} {m : MethodId} {args : Array Value} {below : List Frame} {meth : Method} {c : Code} {T : State} {H : Heap} {locs : List Loc} {cells slots : Nat}
theorem vx_callVX (X : Stand p l e R s m args below meth c T locs cells slots) (hexec : p.tables.exec = Jvm.exec) {own C : String} {index : Nat} {y : MethodName} {bytes : ByteArray} {maxL : Nat} {ret : Option FieldType} {hh : List (Nat × Nat × Nat × Nat)}
    (hown : s.vm.findClass own = some m.cls) (hlink : (Cond.methodLink own index y).before args s = true) (hinst : (Cond.instanceMethod y).before args s = true) (hsel : (Cond.selects C y y).before args s = true)
    (hcode : (Cond.codeWith y bytes maxL ret hh).before args s = true) (hy : y.cls ≠ "java/lang/invoke/MethodHandle" ∧ y.cls ≠ "java/lang/invoke/VarHandle")
    {W9 : Nat} {Pre : Pt → Array Value → Prop} {Post : Pt → Array Value → Option Value → Pt → Prop} {PostX : Pt → Array Value → Addr → Pt → Prop} (hK : vx_Back l R p e below s args y 3 W9 Pre Post PostX)
    {b : Addr} {cellB : Cell} (hcell : T.heap[b]? = some cellB) (hobj : cellB.vm.isStatics = false) (hcls : s.vm.findClass C = some cellB.cls)
    {g : JFrame} (hg : g.method = m) (hsize : g.locals.size = c.maxLocals) {argsL rest : List Value} (hlen : ∀ sig, parseMethodDescriptor y.desc = some sig → argsL.length = sig.parameters.length)
    (hstack : g.stack = argsL.reverse ++ .ref b :: rest) (hW : 2 * g.monitorRoom + (rest.map fun v => v.category).sum ≤ W9) (hdg : decode c.code g.pc = .ok (.invokevirtual index, 3))
    (hpre : ∀ vm₁, s.WarmedH vm₁ → Pre ⟨T.setVm vm₁, locs, cells, slots⟩ (Value.ref b :: argsL).toArray) :
    (∃ (v : Option Value) (vm₁ : Vm) (B : Pt), s.WarmedH vm₁ ∧ Stand p l e R s m args below meth c B.U B.locs B.cells B.slots ∧ Post ⟨T.setVm vm₁, locs, cells, slots⟩ (Value.ref b :: argsL).toArray v B ∧
      ∀ target, Steps p.tables e below (B.U.setTop { g with pc := g.pc + 3, stack := v.toList ++ rest }) target → Steps p.tables e below (T.setTop g) target) ∨
    (∃ (q : Addr) (vm₁ : Vm) (B : Pt), s.WarmedH vm₁ ∧ Stand p l e R s m args below meth c B.U B.locs B.cells B.slots ∧ PostX ⟨T.setVm vm₁, locs, cells, slots⟩ (Value.ref b :: argsL).toArray q B ∧
      Steps p.tables e below (T.setTop g) ((B.U.setTop { g with stack := rest }).pushFrame (.throwing q))) := by
  obtain ⟨mk, methM, hnamed, hmethM, hstM, habM⟩ := Cond.instanceMethod_spec hinst
  obtain ⟨m8, methM', cM, hn8, hmethM', -, -, -, -, -, -, hsigM⟩ := Cond.codeWith_spec hcode
  cases Option.some.inj (hn8.symm.trans hnamed)
  cases hmethM.symm.trans hmethM'
  obtain ⟨c2, r2, m2, q1, q2, q3, q4, kP, hkP, hkPi⟩ := Cond.selects_spec hsel
  cases hcls.symm.trans q1
  cases (State.methodFound?_of_named hnamed hy).symm.trans q2
  cases hnamed.symm.trans q3
  have hselP : selectMethod e.platform s.vm cellB.cls mk = .method mk := by rw [Launch.admits_selectMethod X.admits]; exact q4
  obtain ⟨vm₁, X₁, hstep₁⟩ := X.invokevirtual hexec hown hlink hnamed hmethM hstM hkP hkPi hy (a := b) (cell := cellB) hcell
    (fun z h => by rw [h] at hobj; cases hobj) hselP hmethM habM hkP hkPi (g := g) hg (argsL := argsL) (rest := rest) (hlen _ hsigM) hstack hdg
  rcases hK m meth c ⟨T.setVm vm₁, locs, cells, slots⟩ { g with stack := rest } (.invokevirtual index) mk (Value.ref b :: argsL).toArray X₁ hg hsize hdg hW (X₁.named hnamed) (hpre vm₁ X₁.warmed) with ⟨v, B, X', hpost, hsteps⟩ | ⟨q, B, X', hpost, hsteps⟩
  · exact Or.inl ⟨v, vm₁, B, X₁.warmed, X', hpost, fun target h => hstep₁ _ fun acts => by rw [doInvoke_state]; exact hsteps.trans h⟩
  · exact Or.inr ⟨q, vm₁, B, X₁.warmed, X', hpost, hstep₁ _ fun acts => by rw [doInvoke_state]; exact hsteps⟩
theorem vx_callSX (X : Stand p l e R s m args below meth c T locs cells slots) (hexec : p.tables.exec = Jvm.exec) {own : String} {index : Nat} {y : MethodName} {bytes : ByteArray} {maxL : Nat} {ret : Option FieldType} {hh : List (Nat × Nat × Nat × Nat)}
    (hown : s.vm.findClass own = some m.cls) (hlink : (Cond.methodLink own index y).before args s = true) (hstat : (Cond.static y).before args s = true) (hinit : (Cond.initialized y.cls).before args s = true)
    (hcode : (Cond.codeWith y bytes maxL ret hh).before args s = true) (hy : y.cls ≠ "java/lang/invoke/MethodHandle" ∧ y.cls ≠ "java/lang/invoke/VarHandle")
    {W9 : Nat} {Pre : Pt → Array Value → Prop} {Post : Pt → Array Value → Option Value → Pt → Prop} {PostX : Pt → Array Value → Addr → Pt → Prop} (hK : vx_Back l R p e below s args y 3 W9 Pre Post PostX)
    {g : JFrame} (hg : g.method = m) (hsize : g.locals.size = c.maxLocals) {argsL rest : List Value} (hlen : ∀ sig, parseMethodDescriptor y.desc = some sig → argsL.length = sig.parameters.length)
    (hstack : g.stack = argsL.reverse ++ rest) (hW : 2 * g.monitorRoom + (rest.map fun v => v.category).sum ≤ W9) (hdg : decode c.code g.pc = .ok (.invokestatic index, 3))
    (hpre : ∀ vm₁, s.WarmedH vm₁ → Pre ⟨T.setVm vm₁, locs, cells, slots⟩ argsL.toArray) :
    (∃ (v : Option Value) (vm₁ : Vm) (B : Pt), s.WarmedH vm₁ ∧ Stand p l e R s m args below meth c B.U B.locs B.cells B.slots ∧ Post ⟨T.setVm vm₁, locs, cells, slots⟩ argsL.toArray v B ∧
      ∀ target, Steps p.tables e below (B.U.setTop { g with pc := g.pc + 3, stack := v.toList ++ rest }) target → Steps p.tables e below (T.setTop g) target) ∨
    (∃ (q : Addr) (vm₁ : Vm) (B : Pt), s.WarmedH vm₁ ∧ Stand p l e R s m args below meth c B.U B.locs B.cells B.slots ∧ PostX ⟨T.setVm vm₁, locs, cells, slots⟩ argsL.toArray q B ∧
      Steps p.tables e below (T.setTop g) ((B.U.setTop { g with stack := rest }).pushFrame (.throwing q))) := by
  obtain ⟨mk, methM, cM, hnamed, hmethM, -, -, -, -, -, -, hsigM⟩ := Cond.codeWith_spec hcode
  have hstatic : methM.isStatic = true := Cond.static_spec hnamed hmethM hstat
  obtain ⟨kP, hkP, -⟩ := className_of_methodNamed hnamed
  have hinitP : kP.init = .initialized := Cond.initialized_spec (findClass_of_methodNamed hnamed) hkP hinit
  obtain ⟨vm₁, X₁, hstep₁⟩ := X.invokestatic hexec hown hlink hnamed hmethM hstatic hkP hinitP hy (g := g) hg (argsL := argsL) (rest := rest) (hlen _ hsigM) hstack hdg
  rcases hK m meth c ⟨T.setVm vm₁, locs, cells, slots⟩ { g with stack := rest } (.invokestatic index) mk argsL.toArray X₁ hg hsize hdg hW (X₁.named hnamed) (hpre vm₁ X₁.warmed) with ⟨v, B, X', hpost, hsteps⟩ | ⟨q, B, X', hpost, hsteps⟩
  · exact Or.inl ⟨v, vm₁, B, X₁.warmed, X', hpost, fun target h => hstep₁ _ fun acts => by rw [doInvoke_state]; exact hsteps.trans h⟩
  · exact Or.inr ⟨q, vm₁, B, X₁.warmed, X', hpost, hstep₁ _ fun acts => by rw [doInvoke_state]; exact hsteps⟩
theorem vx_callVW (X : Stand p l e R s m args below meth c T locs cells slots) (hexec : p.tables.exec = Jvm.exec) {own C : String} {index : Nat} {y : MethodName} {bytes : ByteArray} {maxL : Nat} {ret : Option FieldType} {hh : List (Nat × Nat × Nat × Nat)}
    (hown : s.vm.findClass own = some m.cls) (hlink : (Cond.methodLink own index y).before args s = true) (hinst : (Cond.instanceMethod y).before args s = true) (hsel : (Cond.selects C y y).before args s = true)
    (hcode : (Cond.codeWith y bytes maxL ret hh).before args s = true) (hy : y.cls ≠ "java/lang/invoke/MethodHandle" ∧ y.cls ≠ "java/lang/invoke/VarHandle")
    {W9 : Nat} {Pre : Pt → Array Value → Prop} {Post : Pt → Array Value → Option Value → Pt → Prop} (hK : Back l R p e below s args y 3 W9 Pre Post)
    {b : Addr} {cellB : Cell} (hcell : T.heap[b]? = some cellB) (hobj : cellB.vm.isStatics = false) (hcls : s.vm.findClass C = some cellB.cls)
    {g : JFrame} (hg : g.method = m) (hsize : g.locals.size = c.maxLocals) {argsL rest : List Value} (hlen : ∀ sig, parseMethodDescriptor y.desc = some sig → argsL.length = sig.parameters.length)
    (hstack : g.stack = argsL.reverse ++ .ref b :: rest) (hW : 2 * g.monitorRoom + (rest.map fun v => v.category).sum ≤ W9) (hdg : decode c.code g.pc = .ok (.invokevirtual index, 3))
    (hpre : ∀ vm₁, s.WarmedH vm₁ → Pre ⟨T.setVm vm₁, locs, cells, slots⟩ (Value.ref b :: argsL).toArray) :
    ∃ (v : Option Value) (vm₁ : Vm) (B : Pt), s.WarmedH vm₁ ∧ Stand p l e R s m args below meth c B.U B.locs B.cells B.slots ∧ Post ⟨T.setVm vm₁, locs, cells, slots⟩ (Value.ref b :: argsL).toArray v B ∧
      ∀ target, Steps p.tables e below (B.U.setTop { g with pc := g.pc + 3, stack := v.toList ++ rest }) target → Steps p.tables e below (T.setTop g) target := by
  obtain ⟨mk, methM, hnamed, hmethM, hstM, habM⟩ := Cond.instanceMethod_spec hinst
  obtain ⟨m8, methM', cM, hn8, hmethM', -, -, -, -, -, -, hsigM⟩ := Cond.codeWith_spec hcode
  cases Option.some.inj (hn8.symm.trans hnamed)
  cases hmethM.symm.trans hmethM'
  obtain ⟨c2, r2, m2, q1, q2, q3, q4, kP, hkP, hkPi⟩ := Cond.selects_spec hsel
  cases hcls.symm.trans q1
  cases (State.methodFound?_of_named hnamed hy).symm.trans q2
  cases hnamed.symm.trans q3
  have hselP : selectMethod e.platform s.vm cellB.cls mk = .method mk := by rw [Launch.admits_selectMethod X.admits]; exact q4
  obtain ⟨vm₁, X₁, hstep₁⟩ := X.invokevirtual hexec hown hlink hnamed hmethM hstM hkP hkPi hy (a := b) (cell := cellB) hcell
    (fun z h => by rw [h] at hobj; cases hobj) hselP hmethM habM hkP hkPi (g := g) hg (argsL := argsL) (rest := rest) (hlen _ hsigM) hstack hdg
  obtain ⟨v, B, X', hpost, hsteps⟩ := hK m meth c ⟨T.setVm vm₁, locs, cells, slots⟩ { g with stack := rest } (.invokevirtual index) mk (Value.ref b :: argsL).toArray X₁ hg hsize hdg hW (X₁.named hnamed) (hpre vm₁ X₁.warmed)
  exact ⟨v, vm₁, B, X₁.warmed, X', hpost, fun target h => hstep₁ _ fun acts => by rw [doInvoke_state]; exact hsteps.trans h⟩
abbrev vx_CVW (R : Room) (s : State) (args : Array Value) (own C : String) (index : Nat) (y : MethodName) (bytes : ByteArray) (maxL : Nat) (ret : Option FieldType) (hh : List (Nat × Nat × Nat × Nat)) (ws : List Cond) (rm : Room) (mc ms n : Nat) : Prop :=
  (rm.cells = mc ∧ rm.slots = ms ∧ rm.frames + 1 ≤ R.frames ∧ 8 + (maxL + 11) + rm.locals ≤ R.locals ∧ (∀ w ∈ ws, ∀ (a' : Array Value) (U : State), s.WarmedH U.vm → w.before a' U = true) ∧ Cond.codeWith y bytes maxL ret hh ∈ ws) ∧
  (Cond.codeWith y bytes maxL ret hh).before args s = true ∧ (Cond.initialized y.cls).before args s = true ∧ (y.cls ≠ "java/lang/invoke/MethodHandle" ∧ y.cls ≠ "java/lang/invoke/VarHandle") ∧
  (∀ sig, parseMethodDescriptor y.desc = some sig → n = sig.parameters.length) ∧ (Cond.methodLink own index y).before args s = true ∧ (Cond.instanceMethod y).before args s = true ∧ (Cond.selects C y y).before args s = true
theorem vx_cwVW {own C : String} {index maxL mc ms : Nat} {y : MethodName} {bytes : ByteArray} {ret : Option FieldType} {hh : List (Nat × Nat × Nat × Nat)} {Ts ws ws' : List Cond} {rm : Room} (n : Nat) (ht : ∀ w ∈ Ts, w.before args s = true) (hT : GoodIn Ts (wsV own index C y ws)) (hw : ws = Cond.codeWith y bytes maxL ret hh :: ws') (hrc : rm.cells = mc) (hrs : rm.slots = ms)
    (hd : y.cls = C ∧ y.cls ≠ "java/lang/invoke/MethodHandle" ∧ y.cls ≠ "java/lang/invoke/VarHandle" ∧ (parseMethodDescriptor y.desc).map (fun d => d.parameters.length) = some n) (hR : rm.frames + 1 ≤ R.frames ∧ 8 + (maxL + 11) + rm.locals ≤ R.locals) :
    vx_CVW R s args own C index y bytes maxL ret hh ws rm mc ms n := by
  obtain ⟨hC, hd⟩ := hd
  subst hC
  have ok : ∀ w ∈ wsV own index y.cls y ws, w.before args s = true := fun w h => ht w (hT w h).1
  have hG : GoodIn Ts ws := fun w h => hT w (by unfold wsV; exact List.mem_append_right _ h)
  have hc : Cond.codeWith y bytes maxL ret hh ∈ ws := by rw [hw]; exact List.mem_cons_self
  refine ⟨⟨hrc, hrs, hR.1, hR.2, pay_in ht hG, hc⟩, ht _ (hG _ hc).1, ok _ (by simp [wsV]), ⟨hd.1, hd.2.1⟩, fun sig h => ?_, ok _ (by simp [wsV]), ok _ (by simp [wsV]), ok _ (by simp [wsV])⟩
  have h2 := hd.2.2
  rw [h] at h2
  exact (Option.some.inj h2).symm
theorem vx_runVW {y : MethodName} {bytes cc : ByteArray} {maxL nL mc ms n index : Nat} {ret : Option FieldType} {hh : List (Nat × Nat × Nat × Nat)} {ws : List Cond} {rm : Room} {Pc : Array Value → State → Prop} {Qc : Array Value → State → Outcome → State → Prop} {free : Addr → Prop} {Ts : List Cond} {own C : String} {b : Addr} {As rest : List Value} {g : JFrame}
    (S : CallFix p m c cc nL s args Ts own) (hM : Met l y ws rm Pc Qc mc ms free) (cw : vx_CVW R s args own C index y bytes maxL ret hh ws rm mc ms n) (hp : PreV s H C b Pc As)
    (hg : g.method = m) (hn : As.length = n) (hsize : g.locals.size = nL) (hstack : g.stack = As.reverse ++ .ref b :: rest) (hW : 2 * g.monitorRoom + (rest.map fun v => v.category).sum ≤ 8) (hdg : decode cc g.pc = .ok (.invokevirtual index, 3)) (hf : cells + mc ≤ R.cells ∧ slots + ms ≤ R.slots) :
    va_Run p l e R s m args below meth c H locs cells slots mc ms g rest (Qc (Value.ref b :: As).toArray) free := by
  obtain ⟨⟨hrc, hrs, hfr, hlo, hws, hcw⟩, hcode, hini, hy, hlen, hl, hin, hse⟩ := cw
  have hK : Back l R p e below s args y 3 8 (PreOf R mc ms Pc) (PostOf Qc mc ms free) := va_backW (hh := hh) (bytes := bytes) (maxL := maxL) (ret := ret) hM hp.1 hrc hrs hfr hlo hws hcw (fun a' U hW => word_at hW (Or.inl (by first | rfl | simp [Cond.onTables, Cond.keeps, Cond.steady])) hini)
  obtain ⟨hx, hb, hml, ho, -⟩ := S
  obtain ⟨-, ⟨cellB, hcB, hoB, hclB⟩, hPc⟩ := hp
  intro T hT X
  obtain ⟨v, vm₁, ⟨U', l2, c2, s2⟩, hW₁, X', ⟨g', mk, t, L, e1, e2, hq, h1, hL, h2, h3⟩, st⟩ := vx_callVW X hx (C := C) (hh := hh) (bytes := bytes) (maxL := maxL) (ret := ret) ho hl hin hse hcode hy hK (by rw [hT]; exact hcB) hoB hclB hg (hsize.trans hml.symm) (argsL := As) (rest := rest) (fun sig h => hn.trans (hlen sig h)) hstack hW (by rw [hb]; exact hdg)
    (fun vm₁ hW₁ => ⟨hf.1, hf.2, hPc (T.setVm vm₁) hT hW₁⟩)
  dsimp only [Pt.U, Pt.locs, Pt.cells, Pt.slots] at X' e1 e2 h1 h2 h3 st
  subst h1; subst h2; subst h3
  exact ⟨v, (T.setVm vm₁).calling g' mk (Value.ref b :: As).toArray, t, U', L, hT, X', hL, e1, e2, hq, st⟩
section
variable {y : MethodName} {bytes cc : ByteArray} {maxL nL mc ms n index : Nat} {ret : Option FieldType} {ws : List Cond} {rm : Room} {Pc : Array Value → State → Prop} {Qc : Array Value → State → Outcome → State → Prop} {XC : String → State → State → Prop} {free : Addr → Prop} {Ts : List Cond} {own C : String} {b : Addr} {As rest : List Value} {g : JFrame}
theorem vx_runVX {hh : List (Nat × Nat × Nat × Nat)} (S : CallFix p m c cc nL s args Ts own) (hM : vx_Met l y ws rm Pc Qc XC mc ms free) (cw : vx_CVW R s args own C index y bytes maxL ret hh ws rm mc ms n) (hp : PreV s H C b Pc As)
    (hg : g.method = m) (hn : As.length = n) (hsize : g.locals.size = nL) (hstack : g.stack = As.reverse ++ .ref b :: rest) (hW : 2 * g.monitorRoom + (rest.map fun v => v.category).sum ≤ 8) (hdg : decode cc g.pc = .ok (.invokevirtual index, 3)) (hf : cells + mc ≤ R.cells ∧ slots + ms ≤ R.slots) :
    vx_Run p l e R s m args below meth c H locs cells slots mc ms g rest (Qc (Value.ref b :: As).toArray) XC free := by
  obtain ⟨⟨hrc, hrs, hfr, hlo, hws, hcw⟩, hcode, hini, hy, hlen, hl, hin, hse⟩ := cw
  have hK : vx_Back l R p e below s args y 3 8 (PreOf R mc ms Pc) (PostOf Qc mc ms free) (vx_Post XC mc ms free) := vx_backW (hh := hh) (bytes := bytes) (maxL := maxL) (ret := ret) hM hp.1 hrc hrs hfr hlo hws hcw (fun a' U hW => word_at hW (Or.inl (by first | rfl | simp [Cond.onTables, Cond.keeps, Cond.steady])) hini)
  obtain ⟨hx, hb, hml, ho, -⟩ := S
  obtain ⟨-, ⟨cellB, hcB, hoB, hclB⟩, hPc⟩ := hp
  intro T hT X
  rcases vx_callVX X hx (C := C) (hh := hh) (bytes := bytes) (maxL := maxL) (ret := ret) ho hl hin hse hcode hy hK (by rw [hT]; exact hcB) hoB hclB hg (hsize.trans hml.symm) (argsL := As) (rest := rest) (fun sig h => hn.trans (hlen sig h)) hstack hW (by rw [hb]; exact hdg)
    (fun vm₁ hW₁ => ⟨hf.1, hf.2, hPc (T.setVm vm₁) hT hW₁⟩) with ⟨v, vm₁, ⟨U', l2, c2, s2⟩, hW₁, X', ⟨g', mk, t, L, e1, e2, hq, h1, hL, h2, h3⟩, st⟩ | ⟨q, vm₁, ⟨U', l2, c2, s2⟩, hW₁, X', ⟨g', mk, t, L, E, ce, e1, e2, hq, hce, hcv, hcl, h1, hL, h2, h3⟩, st⟩
  · dsimp only [Pt.U, Pt.locs, Pt.cells, Pt.slots] at X' e1 e2 h1 h2 h3 st
    subst h1; subst h2; subst h3
    exact Or.inl ⟨v, (T.setVm vm₁).calling g' mk (Value.ref b :: As).toArray, t, U', L, hT, X', hL, e1, e2, hq, st⟩
  · dsimp only [Pt.U, Pt.locs, Pt.cells, Pt.slots] at X' e1 e2 h1 h2 h3 st hcl
    subst h1; subst h2; subst h3
    exact Or.inr ⟨q, (T.setVm vm₁).calling g' mk (Value.ref b :: As).toArray, t, U', L, E, ce, hT, X', hL, e1, e2, hq, hce, hcv, vx_cls hW₁ hcl, st⟩
theorem vx_runSX {hh : List (Nat × Nat × Nat × Nat)} (S : CallFix p m c cc nL s args Ts own) (hM : vx_Met l y ws rm Pc Qc XC mc ms free) (cw : vx_CSW R s args own index y bytes maxL ret hh ws rm mc ms n) (hp : PreS s H Pc As)
    (hg : g.method = m) (hn : As.length = n) (hsize : g.locals.size = nL) (hstack : g.stack = As.reverse ++ rest) (hW : 2 * g.monitorRoom + (rest.map fun v => v.category).sum ≤ 8) (hdg : decode cc g.pc = .ok (.invokestatic index, 3)) (hf : cells + mc ≤ R.cells ∧ slots + ms ≤ R.slots) :
    vx_Run p l e R s m args below meth c H locs cells slots mc ms g rest (Qc As.toArray) XC free := by
  obtain ⟨⟨hrc, hrs, hfr, hlo, hws, hcw⟩, hcode, hini, hy, hlen, hl, hstt⟩ := cw
  have hK : vx_Back l R p e below s args y 3 8 (PreOf R mc ms Pc) (PostOf Qc mc ms free) (vx_Post XC mc ms free) := vx_backW (hh := hh) (bytes := bytes) (maxL := maxL) (ret := ret) hM hp.1 hrc hrs hfr hlo hws hcw (fun a' U hW => word_at hW (Or.inl (by first | rfl | simp [Cond.onTables, Cond.keeps, Cond.steady])) hini)
  obtain ⟨hx, hb, hml, ho, -⟩ := S
  intro T hT X
  rcases vx_callSX X hx (hh := hh) (bytes := bytes) (maxL := maxL) (ret := ret) ho hl hstt hini hcode hy hK hg (hsize.trans hml.symm) (argsL := As) (rest := rest) (fun sig h => hn.trans (hlen sig h)) hstack hW (by rw [hb]; exact hdg)
    (fun vm₁ hW₁ => ⟨hf.1, hf.2, hp.2 (T.setVm vm₁) hT hW₁⟩) with ⟨v, vm₁, ⟨U', l2, c2, s2⟩, hW₁, X', ⟨g', mk, t, L, e1, e2, hq, h1, hL, h2, h3⟩, st⟩ | ⟨q, vm₁, ⟨U', l2, c2, s2⟩, hW₁, X', ⟨g', mk, t, L, E, ce, e1, e2, hq, hce, hcv, hcl, h1, hL, h2, h3⟩, st⟩
  · dsimp only [Pt.U, Pt.locs, Pt.cells, Pt.slots] at X' e1 e2 h1 h2 h3 st
    subst h1; subst h2; subst h3
    exact Or.inl ⟨v, (T.setVm vm₁).calling g' mk As.toArray, t, U', L, hT, X', hL, e1, e2, hq, st⟩
  · dsimp only [Pt.U, Pt.locs, Pt.cells, Pt.slots] at X' e1 e2 h1 h2 h3 st hcl
    subst h1; subst h2; subst h3
    exact Or.inr ⟨q, (T.setVm vm₁).calling g' mk As.toArray, t, U', L, E, ce, hT, X', hL, e1, e2, hq, hce, hcv, vx_cls hW₁ hcl, st⟩
end
end VXH
theorem vx_ofWH {l : Launch} {y : MethodName} {ws ws' : List Cond} {rm : Room} {Pc : Array Value → State → Prop} {Qc : Array Value → State → Outcome → State → Prop} {XC : String → State → State → Prop} {mc ms : Nat} {free : Addr → Prop} {cc : ByteArray} {maxL : Nat} {ret : Option FieldType} {hh : List (Nat × Nat × Nat × Nat)}
    (hy : plainName y.cls = true) (hw : ws = Cond.codeWith y cc maxL ret hh :: ws')
    (body : ∀ p e s m args below meth c s₁, BodyLoose p l y (headSpec ws rm) cc maxL ret e s m args below meth c s₁ → c.maxLocals = maxL → Pc args s →
      W p l e (headSpec ws rm).room s m args below meth c s.heap [] 0 0 (vx_MQ below Qc XC args s mc ms free) (entryFrame m args maxL)) : vx_Met l y ws rm Pc Qc XC mc ms free := by
  refine MetFree.of_bodyS (code := cc) (maxLocals := maxL) (ret := ret) hy ?_ ?_
  · intro args s m h hn
    obtain ⟨m9, meth, c, hn9, h1, h2, h3, h4, -, h5, h6, -⟩ := Cond.codeWith_spec (atoms_spec (ws := ws) h _ (by rw [hw]; exact List.mem_cons_self))
    cases hn.symm.trans hn9
    exact ⟨meth, c, h1, h2, h3, h4, h5, h6⟩
  · intro p e s m args below meth c s₁ B hml hP _
    have hh0 : s₁.heap = s.heap := by rw [B.state]; rfl
    obtain ⟨t, a1, o, b1, b2, b3⟩ := body p e s m args below meth c s₁ B hml hP s₁ hh0 (Stand.of_body B)
    exact ⟨t, o, a1, b1, b2, b3⟩
/-! ===== END ===== -/
end
section
/-! abstract worlds: a reference is a place in the list of cells; ad gives the address of a place -/
def ax_v (ad : Nat → Nat) (v : Value) : Value := match v with
  | .ref k => .ref (ad k)
  | .int x => .int x
  | .long x => .long x
  | .float x => .float x
  | .double x => .double x
  | .null => .null
  | .retAddr x => .retAddr x
theorem ax_v_cat (ad : Nat → Nat) (v : Value) : (ax_v ad v).category = v.category := by cases v <;> rfl
def ax_A (ad : Nat → Nat) (a : vp_A) : vp_A := match a with
  | (n, .inl f) => (n, .inl f)
  | (n, .inr (.inl f)) => (n, .inr (.inl f))
  | (n, .inr (.inr (.inl f))) => (n, .inr (.inr (.inl f)))
  | (n, .inr (.inr (.inr (.inl f)))) => (n, .inr (.inr (.inr (.inl f))))
  | (n, .inr (.inr (.inr (.inr f)))) => (n, .inr (.inr (.inr (.inr (fun j => (f j).map ad)))))
def ax_E (ad ca : Nat → Nat) (q : va_E) : va_E := match q with
  | .inl (c, a) => .inl (ca c, ax_A ad a)
  | .inr (c, fs) => .inr (c, fs.map (ax_v ad))
def ax_W (ad ca : Nat → Nat) (w : List va_E) : va_W := w.mapIdx (fun k c => (ad k, ax_E ad ca c))
/-- the array classes: 0 int, 1 long, 2 boolean, 3 long[] -/
def ax_ty (ca : Nat → Nat) : List (ClassId × FieldType) := [(ca 0, .int), (ca 1, .long), (ca 2, .boolean), (ca 3, .array .long)]
theorem ax_W_get (ad ca : Nat → Nat) (w : List va_E) (k : Nat) : (ax_W ad ca w)[k]? = (w[k]?).map (fun c => (ad k, ax_E ad ca c)) := by
  simp [ax_W, List.getElem?_mapIdx]
theorem ax_W_at {ad ca : Nat → Nat} {w : List va_E} {k : Nat} {c : va_E} (h : w[k]? = some c) : (ax_W ad ca w)[k]? = some (ad k, ax_E ad ca c) := by
  rw [ax_W_get, h]; rfl
theorem ax_W_set (ad ca : Nat → Nat) (w : List va_E) (k : Nat) (c : va_E) : (ax_W ad ca w).set k (ad k, ax_E ad ca c) = ax_W ad ca (w.set k c) := by
  apply List.ext_getElem?
  intro i
  rw [List.getElem?_set, ax_W_get, ax_W_get, List.getElem?_set]
  have hl : (ax_W ad ca w).length = w.length := by simp [ax_W]
  rw [hl]
  by_cases h : k = i
  · subst h
    by_cases h2 : k < w.length <;> simp [h2]
  · simp [h]
/-! locals: place by place -/
def ax_L (ls : Array Slot) (nL : Nat) (ad : Nat → Nat) (L : List (Option Value)) : Prop := ls.size = nL ∧ lv_wf ls ∧ ∀ (i : Nat) (v : Value), L[i]? = some (some v) → ls[i]? = some (.val (ax_v ad v))
def ax_ll (ad : Nat → Nat) (L : List (Option Value)) : List (Nat × Value) := (List.range L.length).filterMap (fun i => match L[i]? with
  | some (some v) => some (i, ax_v ad v)
  | _ => none)
theorem ax_ll_in {ad : Nat → Nat} {L : List (Option Value)} {i : Nat} {v : Value} (h : L[i]? = some (some v)) : (i, ax_v ad v) ∈ ax_ll ad L := by
  refine List.mem_filterMap.mpr ⟨i, List.mem_range.mpr (List.getElem?_eq_some_iff.mp h).1, ?_⟩
  rw [h]
theorem ax_ll_of {ad : Nat → Nat} {L : List (Option Value)} {q : Nat × Value} (h : q ∈ ax_ll ad L) : ∃ v, L[q.1]? = some (some v) ∧ q.2 = ax_v ad v := by
  obtain ⟨i, -, hi⟩ := List.mem_filterMap.mp h
  cases hL : L[i]? with
  | none => rw [hL] at hi; cases hi
  | some o =>
    cases o with
    | none => rw [hL] at hi; cases hi
    | some v =>
      rw [hL] at hi
      cases hi
      exact ⟨v, hL, rfl⟩
theorem ax_L.has {ls : Array Slot} {nL : Nat} {ad : Nat → Nat} {L : List (Option Value)} (h : ax_L ls nL ad L) : lv_has ls nL (ax_ll ad L) := by
  refine ⟨h.1, h.2.1, fun q hq => ?_⟩
  obtain ⟨v, h1, h2⟩ := ax_ll_of hq
  rw [h2]
  exact h.2.2 _ _ h1
def ax_cb (L : List (Option Value)) (i : Nat) : List (Option Value) := match i with
  | 0 => L
  | j + 1 => match L[j]? with
    | some (some (.long _)) => L.set j none
    | some (some (.double _)) => L.set j none
    | _ => L
def ax_s1 (L : List (Option Value)) (i : Nat) (v : Value) : List (Option Value) := (ax_cb L i).set i (some v)
def ax_s2 (L : List (Option Value)) (i : Nat) (v : Value) : List (Option Value) := ((ax_cb L i).set (i + 1) none).set i (some v)
theorem ax_cb_sub {L : List (Option Value)} {i j : Nat} {u : Value} (h : (ax_cb L i)[j]? = some (some u)) : L[j]? = some (some u) ∧ ¬ (j + 1 = i ∧ u.category = 2) := by
  cases i with
  | zero => exact ⟨h, fun z => by omega⟩
  | succ k =>
    have key : ∀ (o : Option (Option Value)), L[k]? = o → (L.set k none)[j]? = some (some u) → L[j]? = some (some u) ∧ ¬ (j + 1 = k + 1 ∧ u.category = 2) := by
      intro o _ h
      rw [List.getElem?_set] at h
      by_cases hk : k = j
      · rw [if_pos hk] at h
        split at h <;> cases h
      · rw [if_neg hk] at h
        exact ⟨h, fun z => hk (by omega)⟩
    have h2 : (match L[k]? with
      | some (some (.long _)) => L.set k none
      | some (some (.double _)) => L.set k none
      | _ => L)[j]? = some (some u) := h
    clear h
    split at h2
    · exact key _ rfl h2
    · exact key _ rfl h2
    · rename_i n1 n2
      have h := h2
      refine ⟨h, fun z => ?_⟩
      obtain ⟨z1, z2⟩ := z
      have : j = k := by omega
      subst this
      cases u with
      | long x => exact n1 x h
      | double x => exact n2 x h
      | _ => simp [Value.category] at z2
theorem ax_L.s1 {ls' : Array Slot} {nL i : Nat} {ad : Nat → Nat} {L : List (Option Value)} {v : Value} (h : lv_has ls' nL ((i, ax_v ad v) :: (ax_ll ad L).filter (fun q => !(q.1 == i) && !(q.1 + 1 == i && q.2.category == 2)))) : ax_L ls' nL ad (ax_s1 L i v) := by
  refine ⟨h.1, h.2.1, fun j u hj => ?_⟩
  unfold ax_s1 at hj
  rw [List.getElem?_set] at hj
  by_cases hi : i = j
  · subst hi
    rw [if_pos rfl] at hj
    split at hj
    · cases hj
      exact h.2.2 (i, ax_v ad v) List.mem_cons_self
    · cases hj
  · rw [if_neg hi] at hj
    obtain ⟨h1, h2⟩ := ax_cb_sub hj
    refine h.2.2 (j, ax_v ad u) (List.mem_cons_of_mem _ (List.mem_filter.mpr ⟨ax_ll_in h1, ?_⟩))
    have e1 : (j == i) = false := by simpa using fun z : j = i => hi z.symm
    have e2 : (j + 1 == i && (ax_v ad u).category == 2) = false := by
      rw [ax_v_cat]
      cases hx : (j + 1 == i && u.category == 2) with
      | false => rfl
      | true => simp at hx; exact absurd hx h2
    simp only [e1, e2]
    rfl
theorem ax_L.s2 {ls' : Array Slot} {nL i : Nat} {ad : Nat → Nat} {L : List (Option Value)} {v : Value} (h : lv_has ls' nL ((i, ax_v ad v) :: (ax_ll ad L).filter (fun q => !(q.1 == i) && (!(q.1 == i + 1) && !(q.1 + 1 == i && q.2.category == 2))))) : ax_L ls' nL ad (ax_s2 L i v) := by
  refine ⟨h.1, h.2.1, fun j u hj => ?_⟩
  unfold ax_s2 at hj
  rw [List.getElem?_set] at hj
  by_cases hi : i = j
  · subst hi
    rw [if_pos rfl] at hj
    split at hj
    · cases hj
      exact h.2.2 (i, ax_v ad v) List.mem_cons_self
    · cases hj
  · rw [if_neg hi, List.getElem?_set] at hj
    by_cases hi2 : i + 1 = j
    · rw [if_pos hi2] at hj
      split at hj <;> cases hj
    · rw [if_neg hi2] at hj
      obtain ⟨h1, h2⟩ := ax_cb_sub hj
      refine h.2.2 (j, ax_v ad u) (List.mem_cons_of_mem _ (List.mem_filter.mpr ⟨ax_ll_in h1, ?_⟩))
      have e1 : (j == i) = false := by simpa using fun z : j = i => hi z.symm
      have e3 : (j == i + 1) = false := by simpa using fun z : j = i + 1 => hi2 z.symm
      have e2 : (j + 1 == i && (ax_v ad u).category == 2) = false := by
        rw [ax_v_cat]
        cases hx : (j + 1 == i && u.category == 2) with
        | false => rfl
        | true => simp at hx; exact absurd hx h2
      simp only [e1, e2, e3]
      rfl
/-- the locals with which a method begins -/
def ax_ar : List Value → List (Option Value)
  | [] => []
  | .long x :: vs => some (.long x) :: none :: ax_ar vs
  | .double x :: vs => some (.double x) :: none :: ax_ar vs
  | v :: vs => some v :: ax_ar vs
def ax_en (n : Nat) (vs : List Value) : List (Option Value) := ax_ar vs ++ List.replicate (n - (ax_ar vs).length) none
theorem ax_ar_in (ad : Nat → Nat) (vs : List Value) : ∀ (b i : Nat) (v : Value), (ax_ar vs)[i]? = some (some v) → (b + i, ax_v ad v) ∈ lv_args b (vs.map (ax_v ad)) := by
  induction vs with
  | nil => intro b i v h; simp [ax_ar] at h
  | cons u vs ih =>
    intro b i v h
    have one : u.category = 1 → ax_ar (u :: vs) = some u :: ax_ar vs → (b + i, ax_v ad v) ∈ lv_args b ((u :: vs).map (ax_v ad)) := by
      intro hc he
      rw [he] at h
      show _ ∈ (b, ax_v ad u) :: lv_args _ _
      rw [ax_v_cat, if_neg (by omega)]
      cases i with
      | zero => simp at h; subst h; exact List.mem_cons_self
      | succ k =>
        simp at h
        have := ih (b + 1) k v h
        rw [show b + (k + 1) = b + 1 + k by omega]
        exact List.mem_cons_of_mem _ this
    have two : u.category = 2 → ax_ar (u :: vs) = some u :: none :: ax_ar vs → (b + i, ax_v ad v) ∈ lv_args b ((u :: vs).map (ax_v ad)) := by
      intro hc he
      rw [he] at h
      show _ ∈ (b, ax_v ad u) :: lv_args _ _
      rw [ax_v_cat, if_pos hc]
      cases i with
      | zero => simp at h; subst h; exact List.mem_cons_self
      | succ k =>
        cases k with
        | zero => simp at h
        | succ k =>
          simp at h
          have := ih (b + 2) k v h
          rw [show b + (k + 1 + 1) = b + 2 + k by omega]
          exact List.mem_cons_of_mem _ this
    cases u with
    | long x => exact two rfl rfl
    | double x => exact two rfl rfl
    | _ => exact one rfl rfl
theorem ax_ar_len (ad : Nat → Nat) (vs : List Value) : (lg_sl (vs.map (ax_v ad))).length = (ax_ar vs).length := by
  induction vs with
  | nil => rfl
  | cons u vs ih =>
    have h : lg_sl ((u :: vs).map (ax_v ad)) = (if (ax_v ad u).category = 2 then [Slot.val (ax_v ad u), Slot.second] else [Slot.val (ax_v ad u)]) ++ lg_sl (vs.map (ax_v ad)) := by simp [lg_sl]
    rw [h, List.length_append, ih]
    cases u <;> simp [ax_ar, ax_v, Value.category] <;> omega
theorem ax_L.en (ad : Nat → Nat) (vs : List Value) {n : Nat} (h : (ax_ar vs).length ≤ n) : ax_L ((lg_sl (vs.map (ax_v ad)) ++ List.replicate (n - (lg_sl (vs.map (ax_v ad))).length) Slot.unset).toArray) n ad (ax_en n vs) := by
  have h0 := lv_entry (vs.map (ax_v ad)) (n := n) (by rw [ax_ar_len]; exact h)
  refine ⟨h0.1, h0.2.1, fun i v hi => ?_⟩
  unfold ax_en at hi
  by_cases hl : i < (ax_ar vs).length
  · rw [List.getElem?_append_left hl] at hi
    have := ax_ar_in ad vs 0 i v hi
    rw [Nat.zero_add] at this
    exact h0.2.2 _ this
  · rw [List.getElem?_append_right (by omega), List.getElem?_replicate] at hi
    split at hi <;> cases hi
/-! the judgement: what W says, of every heap that holds the world -/
def av_K (p : Program) (s : State) (m : MethodId) (args : Array Value) (meth : Method) (c : Code) (D : va_G) (cl : List vw_C) (ca : Nat → Nat) (A : Nat → Prop) (cc : ByteArray) (nL : Nat) (own : String) (Ts : List Cond) : Prop :=
  p.tables.exec = Jvm.exec ∧ c.code = cc ∧ c.maxLocals = nL ∧ s.vm.findClass own = some m.cls ∧ (∀ w ∈ Ts, w.before args s = true) ∧ va_K D cl (ax_ty ca) s ∧ (∀ q : Nat, s.heap.size ≤ q → A q) ∧ meth.locks = false
def av_V (p : Program) (l : Launch) (e : Env) (R : Room) (s : State) (m : MethodId) (args : Array Value) (below : List Frame) (meth : Method) (c : Code) (D : va_G) (cl : List vw_C) (A : Nat → Prop) (ad ca : Nat → Nat) (nL : Nat) (Q : State → Prop) (cells slots pc : Nat) (L : List (Option Value)) (st : List Value) (w : List va_E) : Prop :=
  ∀ (H : Heap) (locs : List Loc) (ls : Array Slot), va_P D cl (ax_W ad ca w) H → va_D A (ax_W ad ca w) → va_S A s.heap H locs → ax_L ls nL ad L → W p l e R s m args below meth c H locs cells slots Q (F0 m pc ls (st.map (ax_v ad)))
section AV
variable {p : Program} {l : Launch} {e : Env} {R : Room} {s : State} {m : MethodId} {args : Array Value} {below : List Frame} {meth : Method} {c : Code} {cells slots : Nat} {Q : State → Prop}
variable {D : va_G} {cl : List vw_C} {A : Nat → Prop} {ad ca : Nat → Nat} {cc : ByteArray} {nL : Nat} {own : String} {Ts : List Cond}
variable {pc : Nat} {L L' : List (Option Value)} {st : List Value} {w w' : List va_E}

theorem av_iconst (K : av_K p s m args meth c D cl ca A cc nL own Ts) {n : Int} {v : Int32} (hd : decode cc pc = .ok (.iconst n, 1)) (hv : Int32.ofInt n = v) (k : av_V p l e R s m args below meth c D cl A ad ca nL Q cells slots (pc + 1) L (.int v :: st) w) : av_V p l e R s m args below meth c D cl A ad ca nL Q cells slots pc L (st) w := fun H locs ls hP hD hS hL => lv_iconst K.1 K.2.1 hd hv (k H locs ls hP hD hS hL)
theorem av_bipush (K : av_K p s m args meth c D cl ca A cc nL own Ts) {n : Int} {v : Int32} (hd : decode cc pc = .ok (.bipush n, 2)) (hv : (Int8.ofInt n).toInt32 = v) (k : av_V p l e R s m args below meth c D cl A ad ca nL Q cells slots (pc + 2) L (.int v :: st) w) : av_V p l e R s m args below meth c D cl A ad ca nL Q cells slots pc L (st) w := fun H locs ls hP hD hS hL => lv_bipush K.1 K.2.1 hd hv (k H locs ls hP hD hS hL)
theorem av_sipush (K : av_K p s m args meth c D cl ca A cc nL own Ts) {n : Int} {v : Int32} (hd : decode cc pc = .ok (.sipush n, 3)) (hv : (Int16.ofInt n).toInt32 = v) (k : av_V p l e R s m args below meth c D cl A ad ca nL Q cells slots (pc + 3) L (.int v :: st) w) : av_V p l e R s m args below meth c D cl A ad ca nL Q cells slots pc L (st) w := fun H locs ls hP hD hS hL => lv_sipush K.1 K.2.1 hd hv (k H locs ls hP hD hS hL)
theorem av_lconst (K : av_K p s m args meth c D cl ca A cc nL own Ts) {n : Fin 2} {v : Int64} (hd : decode cc pc = .ok (.lconst n, 1)) (hv : Int64.ofNat (n : Nat) = v) (k : av_V p l e R s m args below meth c D cl A ad ca nL Q cells slots (pc + 1) L (.long v :: st) w) : av_V p l e R s m args below meth c D cl A ad ca nL Q cells slots pc L (st) w := fun H locs ls hP hD hS hL => lv_lconst K.1 K.2.1 hd hv (k H locs ls hP hD hS hL)
theorem av_iload_n (K : av_K p s m args meth c D cl ca A cc nL own Ts) {k0 : Fin 4} {i : Nat} {x : Int32} (hd : decode cc pc = .ok (.iload_n k0, 1)) (hi : (k0 : Nat) = i) (hl : L[i]? = some (some (.int x))) (k : av_V p l e R s m args below meth c D cl A ad ca nL Q cells slots (pc + 1) L (.int x :: st) w) : av_V p l e R s m args below meth c D cl A ad ca nL Q cells slots pc L (st) w := fun H locs ls hP hD hS hL => lv_iload_n K.1 K.2.1 hd hi (hL.2.2 i _ hl) (k H locs ls hP hD hS hL)
theorem av_iload (K : av_K p s m args meth c D cl ca A cc nL own Ts) {i : Nat} {x : Int32} (hd : decode cc pc = .ok (.iload i, 2)) (hl : L[i]? = some (some (.int x))) (k : av_V p l e R s m args below meth c D cl A ad ca nL Q cells slots (pc + 2) L (.int x :: st) w) : av_V p l e R s m args below meth c D cl A ad ca nL Q cells slots pc L (st) w := fun H locs ls hP hD hS hL => lv_iload K.1 K.2.1 hd (hL.2.2 i _ hl) (k H locs ls hP hD hS hL)
theorem av_istore_n (K : av_K p s m args meth c D cl ca A cc nL own Ts) {k0 : Fin 4} {i : Nat} {x : Int32} (hd : decode cc pc = .ok (.istore_n k0, 1)) (hi : (k0 : Nat) = i) (hn : i < nL) (hl : ax_s1 L i (.int x) = L') (k : av_V p l e R s m args below meth c D cl A ad ca nL Q cells slots (pc + 1) L' st w) : av_V p l e R s m args below meth c D cl A ad ca nL Q cells slots pc L (.int x :: st) w := fun H locs ls hP hD hS hL => lv_istore_n K.1 K.2.1 hd hi hL.has hn rfl (fun ls' h' => k H locs ls' hP hD hS (hl ▸ ax_L.s1 (v := .int x) h'))
theorem av_istore (K : av_K p s m args meth c D cl ca A cc nL own Ts) {i : Nat} {x : Int32} (hd : decode cc pc = .ok (.istore i, 2)) (hn : i < nL) (hl : ax_s1 L i (.int x) = L') (k : av_V p l e R s m args below meth c D cl A ad ca nL Q cells slots (pc + 2) L' st w) : av_V p l e R s m args below meth c D cl A ad ca nL Q cells slots pc L (.int x :: st) w := fun H locs ls hP hD hS hL => lv_istore K.1 K.2.1 hd hL.has hn rfl (fun ls' h' => k H locs ls' hP hD hS (hl ▸ ax_L.s1 (v := .int x) h'))
theorem av_lload_n (K : av_K p s m args meth c D cl ca A cc nL own Ts) {k0 : Fin 4} {i : Nat} {x : Int64} (hd : decode cc pc = .ok (.lload_n k0, 1)) (hi : (k0 : Nat) = i) (hl : L[i]? = some (some (.long x))) (k : av_V p l e R s m args below meth c D cl A ad ca nL Q cells slots (pc + 1) L (.long x :: st) w) : av_V p l e R s m args below meth c D cl A ad ca nL Q cells slots pc L (st) w := fun H locs ls hP hD hS hL => lv_lload_n K.1 K.2.1 hd hi (hL.2.2 i _ hl) (k H locs ls hP hD hS hL)
theorem av_lload (K : av_K p s m args meth c D cl ca A cc nL own Ts) {i : Nat} {x : Int64} (hd : decode cc pc = .ok (.lload i, 2)) (hl : L[i]? = some (some (.long x))) (k : av_V p l e R s m args below meth c D cl A ad ca nL Q cells slots (pc + 2) L (.long x :: st) w) : av_V p l e R s m args below meth c D cl A ad ca nL Q cells slots pc L (st) w := fun H locs ls hP hD hS hL => lv_lload K.1 K.2.1 hd (hL.2.2 i _ hl) (k H locs ls hP hD hS hL)
theorem av_lstore_n (K : av_K p s m args meth c D cl ca A cc nL own Ts) {k0 : Fin 4} {i : Nat} {x : Int64} (hd : decode cc pc = .ok (.lstore_n k0, 1)) (hi : (k0 : Nat) = i) (hn : i + 1 < nL) (hl : ax_s2 L i (.long x) = L') (k : av_V p l e R s m args below meth c D cl A ad ca nL Q cells slots (pc + 1) L' st w) : av_V p l e R s m args below meth c D cl A ad ca nL Q cells slots pc L (.long x :: st) w := fun H locs ls hP hD hS hL => lv_lstore_n K.1 K.2.1 hd hi hL.has hn rfl (fun ls' h' => k H locs ls' hP hD hS (hl ▸ ax_L.s2 (v := .long x) h'))
theorem av_lstore (K : av_K p s m args meth c D cl ca A cc nL own Ts) {i : Nat} {x : Int64} (hd : decode cc pc = .ok (.lstore i, 2)) (hn : i + 1 < nL) (hl : ax_s2 L i (.long x) = L') (k : av_V p l e R s m args below meth c D cl A ad ca nL Q cells slots (pc + 2) L' st w) : av_V p l e R s m args below meth c D cl A ad ca nL Q cells slots pc L (.long x :: st) w := fun H locs ls hP hD hS hL => lv_lstore K.1 K.2.1 hd hL.has hn rfl (fun ls' h' => k H locs ls' hP hD hS (hl ▸ ax_L.s2 (v := .long x) h'))
theorem av_aload_n (K : av_K p s m args meth c D cl ca A cc nL own Ts) {k0 : Fin 4} {i : Nat} {x : Nat} (hd : decode cc pc = .ok (.aload_n k0, 1)) (hi : (k0 : Nat) = i) (hl : L[i]? = some (some (.ref x))) (k : av_V p l e R s m args below meth c D cl A ad ca nL Q cells slots (pc + 1) L (.ref x :: st) w) : av_V p l e R s m args below meth c D cl A ad ca nL Q cells slots pc L (st) w := fun H locs ls hP hD hS hL => lv_aload_n K.1 K.2.1 hd hi (hL.2.2 i _ hl) (k H locs ls hP hD hS hL)
theorem av_aload (K : av_K p s m args meth c D cl ca A cc nL own Ts) {i : Nat} {x : Nat} (hd : decode cc pc = .ok (.aload i, 2)) (hl : L[i]? = some (some (.ref x))) (k : av_V p l e R s m args below meth c D cl A ad ca nL Q cells slots (pc + 2) L (.ref x :: st) w) : av_V p l e R s m args below meth c D cl A ad ca nL Q cells slots pc L (st) w := fun H locs ls hP hD hS hL => lv_aload K.1 K.2.1 hd (hL.2.2 i _ hl) (k H locs ls hP hD hS hL)
theorem av_astore_n (K : av_K p s m args meth c D cl ca A cc nL own Ts) {k0 : Fin 4} {i : Nat} {x : Nat} (hd : decode cc pc = .ok (.astore_n k0, 1)) (hi : (k0 : Nat) = i) (hn : i < nL) (hl : ax_s1 L i (.ref x) = L') (k : av_V p l e R s m args below meth c D cl A ad ca nL Q cells slots (pc + 1) L' st w) : av_V p l e R s m args below meth c D cl A ad ca nL Q cells slots pc L (.ref x :: st) w := fun H locs ls hP hD hS hL => lv_astore_n K.1 K.2.1 hd hi hL.has hn rfl (fun ls' h' => k H locs ls' hP hD hS (hl ▸ ax_L.s1 (v := .ref x) h'))
theorem av_astore (K : av_K p s m args meth c D cl ca A cc nL own Ts) {i : Nat} {x : Nat} (hd : decode cc pc = .ok (.astore i, 2)) (hn : i < nL) (hl : ax_s1 L i (.ref x) = L') (k : av_V p l e R s m args below meth c D cl A ad ca nL Q cells slots (pc + 2) L' st w) : av_V p l e R s m args below meth c D cl A ad ca nL Q cells slots pc L (.ref x :: st) w := fun H locs ls hP hD hS hL => lv_astore K.1 K.2.1 hd hL.has hn rfl (fun ls' h' => k H locs ls' hP hD hS (hl ▸ ax_L.s1 (v := .ref x) h'))
theorem av_iinc (K : av_K p s m args meth c D cl ca A cc nL own Ts) {i : Nat} {n : Int} {x v : Int32} (hd : decode cc pc = .ok (.iinc i n, 3)) (hx : L[i]? = some (some (.int x))) (hv : x + Int32.ofInt n = v) (hn : i < nL) (hl : ax_s1 L i (.int v) = L') (k : av_V p l e R s m args below meth c D cl A ad ca nL Q cells slots (pc + 3) L' st w) : av_V p l e R s m args below meth c D cl A ad ca nL Q cells slots pc L st w := fun H locs ls hP hD hS hL => by
  have h0 : lv_has ls nL ((i, .int x) :: ax_ll ad L) := ⟨hL.1, hL.2.1, fun q hq => by
    rcases List.mem_cons.mp hq with h | h
    · subst h; exact hL.2.2 i _ hx
    · exact hL.has.2.2 q h⟩
  refine lv_iinc (k := 0) K.1 K.2.1 hd h0 rfl hv hn rfl (fun ls' h' => k H locs ls' hP hD hS (hl ▸ ax_L.s1 (v := .int v) ⟨h'.1, h'.2.1, fun q hq => h'.2.2 q ?_⟩))
  rcases List.mem_cons.mp hq with h | h
  · subst h; exact List.mem_cons_self
  · refine List.mem_cons_of_mem _ (List.mem_filter.mpr ⟨List.mem_cons_of_mem _ (List.mem_filter.mp h).1, (List.mem_filter.mp h).2⟩)
theorem av_iadd (K : av_K p s m args meth c D cl ca A cc nL own Ts) {x y : Int32} (hd : decode cc pc = .ok (.iadd, 1)) (k : av_V p l e R s m args below meth c D cl A ad ca nL Q cells slots (pc + 1) L (.int (x + y) :: st) w) : av_V p l e R s m args below meth c D cl A ad ca nL Q cells slots pc L (.int y :: .int x :: st) w := fun H locs ls hP hD hS hL => lv_iadd K.1 K.2.1 hd (k H locs ls hP hD hS hL)
theorem av_isub (K : av_K p s m args meth c D cl ca A cc nL own Ts) {x y : Int32} (hd : decode cc pc = .ok (.isub, 1)) (k : av_V p l e R s m args below meth c D cl A ad ca nL Q cells slots (pc + 1) L (.int (x - y) :: st) w) : av_V p l e R s m args below meth c D cl A ad ca nL Q cells slots pc L (.int y :: .int x :: st) w := fun H locs ls hP hD hS hL => lv_isub K.1 K.2.1 hd (k H locs ls hP hD hS hL)
theorem av_imul (K : av_K p s m args meth c D cl ca A cc nL own Ts) {x y : Int32} (hd : decode cc pc = .ok (.imul, 1)) (k : av_V p l e R s m args below meth c D cl A ad ca nL Q cells slots (pc + 1) L (.int (x * y) :: st) w) : av_V p l e R s m args below meth c D cl A ad ca nL Q cells slots pc L (.int y :: .int x :: st) w := fun H locs ls hP hD hS hL => lv_imul K.1 K.2.1 hd (k H locs ls hP hD hS hL)
theorem av_iand (K : av_K p s m args meth c D cl ca A cc nL own Ts) {x y : Int32} (hd : decode cc pc = .ok (.iand, 1)) (k : av_V p l e R s m args below meth c D cl A ad ca nL Q cells slots (pc + 1) L (.int (x &&& y) :: st) w) : av_V p l e R s m args below meth c D cl A ad ca nL Q cells slots pc L (.int y :: .int x :: st) w := fun H locs ls hP hD hS hL => lv_iand K.1 K.2.1 hd (k H locs ls hP hD hS hL)
theorem av_ior (K : av_K p s m args meth c D cl ca A cc nL own Ts) {x y : Int32} (hd : decode cc pc = .ok (.ior, 1)) (k : av_V p l e R s m args below meth c D cl A ad ca nL Q cells slots (pc + 1) L (.int (x ||| y) :: st) w) : av_V p l e R s m args below meth c D cl A ad ca nL Q cells slots pc L (.int y :: .int x :: st) w := fun H locs ls hP hD hS hL => lv_ior K.1 K.2.1 hd (k H locs ls hP hD hS hL)
theorem av_ixor (K : av_K p s m args meth c D cl ca A cc nL own Ts) {x y : Int32} (hd : decode cc pc = .ok (.ixor, 1)) (k : av_V p l e R s m args below meth c D cl A ad ca nL Q cells slots (pc + 1) L (.int (x ^^^ y) :: st) w) : av_V p l e R s m args below meth c D cl A ad ca nL Q cells slots pc L (.int y :: .int x :: st) w := fun H locs ls hP hD hS hL => lv_ixor K.1 K.2.1 hd (k H locs ls hP hD hS hL)
theorem av_ishl (K : av_K p s m args meth c D cl ca A cc nL own Ts) {x y : Int32} (hd : decode cc pc = .ok (.ishl, 1)) (k : av_V p l e R s m args below meth c D cl A ad ca nL Q cells slots (pc + 1) L (.int (x <<< (y &&& 31)) :: st) w) : av_V p l e R s m args below meth c D cl A ad ca nL Q cells slots pc L (.int y :: .int x :: st) w := fun H locs ls hP hD hS hL => lv_ishl K.1 K.2.1 hd (k H locs ls hP hD hS hL)
theorem av_ishr (K : av_K p s m args meth c D cl ca A cc nL own Ts) {x y : Int32} (hd : decode cc pc = .ok (.ishr, 1)) (k : av_V p l e R s m args below meth c D cl A ad ca nL Q cells slots (pc + 1) L (.int (x >>> (y &&& 31)) :: st) w) : av_V p l e R s m args below meth c D cl A ad ca nL Q cells slots pc L (.int y :: .int x :: st) w := fun H locs ls hP hD hS hL => lv_ishr K.1 K.2.1 hd (k H locs ls hP hD hS hL)
theorem av_idiv (K : av_K p s m args meth c D cl ca A cc nL own Ts) {x y : Int32} (hd : decode cc pc = .ok (.idiv, 1)) (hne : ¬ y = 0) (k : av_V p l e R s m args below meth c D cl A ad ca nL Q cells slots (pc + 1) L (.int (x / y) :: st) w) : av_V p l e R s m args below meth c D cl A ad ca nL Q cells slots pc L (.int y :: .int x :: st) w := fun H locs ls hP hD hS hL => lv_idiv K.1 K.2.1 hd hne (k H locs ls hP hD hS hL)
theorem av_irem (K : av_K p s m args meth c D cl ca A cc nL own Ts) {x y : Int32} (hd : decode cc pc = .ok (.irem, 1)) (hne : ¬ y = 0) (k : av_V p l e R s m args below meth c D cl A ad ca nL Q cells slots (pc + 1) L (.int (x - x / y * y) :: st) w) : av_V p l e R s m args below meth c D cl A ad ca nL Q cells slots pc L (.int y :: .int x :: st) w := fun H locs ls hP hD hS hL => lv_irem K.1 K.2.1 hd hne (k H locs ls hP hD hS hL)
theorem av_ladd (K : av_K p s m args meth c D cl ca A cc nL own Ts) {x y : Int64} (hd : decode cc pc = .ok (.ladd, 1)) (k : av_V p l e R s m args below meth c D cl A ad ca nL Q cells slots (pc + 1) L (.long (x + y) :: st) w) : av_V p l e R s m args below meth c D cl A ad ca nL Q cells slots pc L (.long y :: .long x :: st) w := fun H locs ls hP hD hS hL => lv_ladd K.1 K.2.1 hd (k H locs ls hP hD hS hL)
theorem av_lsub (K : av_K p s m args meth c D cl ca A cc nL own Ts) {x y : Int64} (hd : decode cc pc = .ok (.lsub, 1)) (k : av_V p l e R s m args below meth c D cl A ad ca nL Q cells slots (pc + 1) L (.long (x - y) :: st) w) : av_V p l e R s m args below meth c D cl A ad ca nL Q cells slots pc L (.long y :: .long x :: st) w := fun H locs ls hP hD hS hL => lv_lsub K.1 K.2.1 hd (k H locs ls hP hD hS hL)
theorem av_lmul (K : av_K p s m args meth c D cl ca A cc nL own Ts) {x y : Int64} (hd : decode cc pc = .ok (.lmul, 1)) (k : av_V p l e R s m args below meth c D cl A ad ca nL Q cells slots (pc + 1) L (.long (x * y) :: st) w) : av_V p l e R s m args below meth c D cl A ad ca nL Q cells slots pc L (.long y :: .long x :: st) w := fun H locs ls hP hD hS hL => lv_lmul K.1 K.2.1 hd (k H locs ls hP hD hS hL)
theorem av_land (K : av_K p s m args meth c D cl ca A cc nL own Ts) {x y : Int64} (hd : decode cc pc = .ok (.land, 1)) (k : av_V p l e R s m args below meth c D cl A ad ca nL Q cells slots (pc + 1) L (.long (x &&& y) :: st) w) : av_V p l e R s m args below meth c D cl A ad ca nL Q cells slots pc L (.long y :: .long x :: st) w := fun H locs ls hP hD hS hL => lv_land K.1 K.2.1 hd (k H locs ls hP hD hS hL)
theorem av_lor (K : av_K p s m args meth c D cl ca A cc nL own Ts) {x y : Int64} (hd : decode cc pc = .ok (.lor, 1)) (k : av_V p l e R s m args below meth c D cl A ad ca nL Q cells slots (pc + 1) L (.long (x ||| y) :: st) w) : av_V p l e R s m args below meth c D cl A ad ca nL Q cells slots pc L (.long y :: .long x :: st) w := fun H locs ls hP hD hS hL => lv_lor K.1 K.2.1 hd (k H locs ls hP hD hS hL)
theorem av_lxor (K : av_K p s m args meth c D cl ca A cc nL own Ts) {x y : Int64} (hd : decode cc pc = .ok (.lxor, 1)) (k : av_V p l e R s m args below meth c D cl A ad ca nL Q cells slots (pc + 1) L (.long (x ^^^ y) :: st) w) : av_V p l e R s m args below meth c D cl A ad ca nL Q cells slots pc L (.long y :: .long x :: st) w := fun H locs ls hP hD hS hL => lv_lxor K.1 K.2.1 hd (k H locs ls hP hD hS hL)
theorem av_lneg (K : av_K p s m args meth c D cl ca A cc nL own Ts) {x : Int64} (hd : decode cc pc = .ok (.lneg, 1)) (k : av_V p l e R s m args below meth c D cl A ad ca nL Q cells slots (pc + 1) L (.long (-x) :: st) w) : av_V p l e R s m args below meth c D cl A ad ca nL Q cells slots pc L (.long x :: st) w := fun H locs ls hP hD hS hL => lv_lneg K.1 K.2.1 hd (k H locs ls hP hD hS hL)
theorem av_i2l (K : av_K p s m args meth c D cl ca A cc nL own Ts) {x : Int32} (hd : decode cc pc = .ok (.i2l, 1)) (k : av_V p l e R s m args below meth c D cl A ad ca nL Q cells slots (pc + 1) L (.long x.toInt64 :: st) w) : av_V p l e R s m args below meth c D cl A ad ca nL Q cells slots pc L (.int x :: st) w := fun H locs ls hP hD hS hL => lv_i2l K.1 K.2.1 hd rfl (k H locs ls hP hD hS hL)
theorem av_l2i (K : av_K p s m args meth c D cl ca A cc nL own Ts) {x : Int64} (hd : decode cc pc = .ok (.l2i, 1)) (k : av_V p l e R s m args below meth c D cl A ad ca nL Q cells slots (pc + 1) L (.int x.toInt32 :: st) w) : av_V p l e R s m args below meth c D cl A ad ca nL Q cells slots pc L (.long x :: st) w := fun H locs ls hP hD hS hL => lv_l2i K.1 K.2.1 hd rfl (k H locs ls hP hD hS hL)
theorem av_lushr (K : av_K p s m args meth c D cl ca A cc nL own Ts) {x : Int64} {y : Int32} (hd : decode cc pc = .ok (.lushr, 1)) (k : av_V p l e R s m args below meth c D cl A ad ca nL Q cells slots (pc + 1) L (.long (x.toUInt64 >>> (y.toInt64.toUInt64 &&& Int64.toUInt64 63)).toInt64 :: st) w) : av_V p l e R s m args below meth c D cl A ad ca nL Q cells slots pc L (.int y :: .long x :: st) w := fun H locs ls hP hD hS hL => lv_lushr K.1 K.2.1 hd rfl (k H locs ls hP hD hS hL)
theorem av_lshl (K : av_K p s m args meth c D cl ca A cc nL own Ts) {x : Int64} {y : Int32} (hd : decode cc pc = .ok (.lshl, 1)) (k : av_V p l e R s m args below meth c D cl A ad ca nL Q cells slots (pc + 1) L (.long (x <<< (y.toInt64 &&& 63)) :: st) w) : av_V p l e R s m args below meth c D cl A ad ca nL Q cells slots pc L (.int y :: .long x :: st) w := fun H locs ls hP hD hS hL => lv_lshl K.1 K.2.1 hd rfl (k H locs ls hP hD hS hL)
theorem av_lshr (K : av_K p s m args meth c D cl ca A cc nL own Ts) {x : Int64} {y : Int32} (hd : decode cc pc = .ok (.lshr, 1)) (k : av_V p l e R s m args below meth c D cl A ad ca nL Q cells slots (pc + 1) L (.long (x >>> (y.toInt64 &&& 63)) :: st) w) : av_V p l e R s m args below meth c D cl A ad ca nL Q cells slots pc L (.int y :: .long x :: st) w := fun H locs ls hP hD hS hL => lv_lshr K.1 K.2.1 hd rfl (k H locs ls hP hD hS hL)
theorem av_lcmp (K : av_K p s m args meth c D cl ca A cc nL own Ts) {x y : Int64} (hd : decode cc pc = .ok (.lcmp, 1)) (k : av_V p l e R s m args below meth c D cl A ad ca nL Q cells slots (pc + 1) L (.int (lg_cmp x y) :: st) w) : av_V p l e R s m args below meth c D cl A ad ca nL Q cells slots pc L (.long y :: .long x :: st) w := fun H locs ls hP hD hS hL => W.lcmp K.1 K.2.1 hd (k H locs ls hP hD hS hL)
theorem av_dup (K : av_K p s m args meth c D cl ca A cc nL own Ts) {va : Value} (hd : decode cc pc = .ok (.dup, 1)) (hva : va.category = 1) (k : av_V p l e R s m args below meth c D cl A ad ca nL Q cells slots (pc + 1) L (va :: va :: st) w) : av_V p l e R s m args below meth c D cl A ad ca nL Q cells slots pc L (va :: st) w := fun H locs ls hP hD hS hL => lv_dup K.1 K.2.1 hd (by rw [ax_v_cat]; exact hva) (k H locs ls hP hD hS hL)
theorem av_dup2 (K : av_K p s m args meth c D cl ca A cc nL own Ts) {va vb : Value} (hd : decode cc pc = .ok (.dup2, 1)) (hva : va.category = 1) (hvb : vb.category = 1) (k : av_V p l e R s m args below meth c D cl A ad ca nL Q cells slots (pc + 1) L (va :: vb :: va :: vb :: st) w) : av_V p l e R s m args below meth c D cl A ad ca nL Q cells slots pc L (va :: vb :: st) w := fun H locs ls hP hD hS hL => lv_dup2_11 K.1 K.2.1 hd (by rw [ax_v_cat]; exact hva) (by rw [ax_v_cat]; exact hvb) (k H locs ls hP hD hS hL)
theorem av_dup_x1 (K : av_K p s m args meth c D cl ca A cc nL own Ts) {va vb : Value} (hd : decode cc pc = .ok (.dup_x1, 1)) (hva : va.category = 1) (hvb : vb.category = 1) (k : av_V p l e R s m args below meth c D cl A ad ca nL Q cells slots (pc + 1) L (va :: vb :: va :: st) w) : av_V p l e R s m args below meth c D cl A ad ca nL Q cells slots pc L (va :: vb :: st) w := fun H locs ls hP hD hS hL => lv_dup_x1 K.1 K.2.1 hd (by rw [ax_v_cat]; exact hva) (by rw [ax_v_cat]; exact hvb) (k H locs ls hP hD hS hL)
theorem av_pop (K : av_K p s m args meth c D cl ca A cc nL own Ts) {va : Value} (hd : decode cc pc = .ok (.pop, 1)) (hva : va.category = 1) (k : av_V p l e R s m args below meth c D cl A ad ca nL Q cells slots (pc + 1) L (st) w) : av_V p l e R s m args below meth c D cl A ad ca nL Q cells slots pc L (va :: st) w := fun H locs ls hP hD hS hL => lv_pop K.1 K.2.1 hd (by rw [ax_v_cat]; exact hva) (k H locs ls hP hD hS hL)
theorem av_if_eq (K : av_K p s m args meth c D cl ca A cc nL own Ts) {x : Int32} {off : Int} {tgt : Nat} (hd : decode cc pc = .ok (.ifCond .eq off, 3)) (ht : (pc : Int) + off = (tgt : Int)) (kt : x = 0 → av_V p l e R s m args below meth c D cl A ad ca nL Q cells slots tgt L st w) (kf : ¬ x = 0 → av_V p l e R s m args below meth c D cl A ad ca nL Q cells slots (pc + 3) L st w) : av_V p l e R s m args below meth c D cl A ad ca nL Q cells slots pc L (.int x :: st) w := fun H locs ls hP hD hS hL => lv_if_eq K.1 K.2.1 hd ht (fun h => kt h H locs ls hP hD hS hL) (fun h => kf h H locs ls hP hD hS hL)
theorem av_icmp_eq (K : av_K p s m args meth c D cl ca A cc nL own Ts) {x y : Int32} {off : Int} {tgt : Nat} (hd : decode cc pc = .ok (.if_icmp .eq off, 3)) (ht : (pc : Int) + off = (tgt : Int)) (kt : x = y → av_V p l e R s m args below meth c D cl A ad ca nL Q cells slots tgt L st w) (kf : ¬ x = y → av_V p l e R s m args below meth c D cl A ad ca nL Q cells slots (pc + 3) L st w) : av_V p l e R s m args below meth c D cl A ad ca nL Q cells slots pc L (.int y :: .int x :: st) w := fun H locs ls hP hD hS hL => lv_icmp_eq K.1 K.2.1 hd ht (fun h => kt h H locs ls hP hD hS hL) (fun h => kf h H locs ls hP hD hS hL)
theorem av_if_ne (K : av_K p s m args meth c D cl ca A cc nL own Ts) {x : Int32} {off : Int} {tgt : Nat} (hd : decode cc pc = .ok (.ifCond .ne off, 3)) (ht : (pc : Int) + off = (tgt : Int)) (kt : ¬ x = 0 → av_V p l e R s m args below meth c D cl A ad ca nL Q cells slots tgt L st w) (kf : x = 0 → av_V p l e R s m args below meth c D cl A ad ca nL Q cells slots (pc + 3) L st w) : av_V p l e R s m args below meth c D cl A ad ca nL Q cells slots pc L (.int x :: st) w := fun H locs ls hP hD hS hL => lv_if_ne K.1 K.2.1 hd ht (fun h => kt h H locs ls hP hD hS hL) (fun h => kf h H locs ls hP hD hS hL)
theorem av_icmp_ne (K : av_K p s m args meth c D cl ca A cc nL own Ts) {x y : Int32} {off : Int} {tgt : Nat} (hd : decode cc pc = .ok (.if_icmp .ne off, 3)) (ht : (pc : Int) + off = (tgt : Int)) (kt : ¬ x = y → av_V p l e R s m args below meth c D cl A ad ca nL Q cells slots tgt L st w) (kf : x = y → av_V p l e R s m args below meth c D cl A ad ca nL Q cells slots (pc + 3) L st w) : av_V p l e R s m args below meth c D cl A ad ca nL Q cells slots pc L (.int y :: .int x :: st) w := fun H locs ls hP hD hS hL => lv_icmp_ne K.1 K.2.1 hd ht (fun h => kt h H locs ls hP hD hS hL) (fun h => kf h H locs ls hP hD hS hL)
theorem av_if_lt (K : av_K p s m args meth c D cl ca A cc nL own Ts) {x : Int32} {off : Int} {tgt : Nat} (hd : decode cc pc = .ok (.ifCond .lt off, 3)) (ht : (pc : Int) + off = (tgt : Int)) (kt : x < 0 → av_V p l e R s m args below meth c D cl A ad ca nL Q cells slots tgt L st w) (kf : ¬ x < 0 → av_V p l e R s m args below meth c D cl A ad ca nL Q cells slots (pc + 3) L st w) : av_V p l e R s m args below meth c D cl A ad ca nL Q cells slots pc L (.int x :: st) w := fun H locs ls hP hD hS hL => lv_if_lt K.1 K.2.1 hd ht (fun h => kt h H locs ls hP hD hS hL) (fun h => kf h H locs ls hP hD hS hL)
theorem av_icmp_lt (K : av_K p s m args meth c D cl ca A cc nL own Ts) {x y : Int32} {off : Int} {tgt : Nat} (hd : decode cc pc = .ok (.if_icmp .lt off, 3)) (ht : (pc : Int) + off = (tgt : Int)) (kt : x < y → av_V p l e R s m args below meth c D cl A ad ca nL Q cells slots tgt L st w) (kf : ¬ x < y → av_V p l e R s m args below meth c D cl A ad ca nL Q cells slots (pc + 3) L st w) : av_V p l e R s m args below meth c D cl A ad ca nL Q cells slots pc L (.int y :: .int x :: st) w := fun H locs ls hP hD hS hL => lv_icmp_lt K.1 K.2.1 hd ht (fun h => kt h H locs ls hP hD hS hL) (fun h => kf h H locs ls hP hD hS hL)
theorem av_if_ge (K : av_K p s m args meth c D cl ca A cc nL own Ts) {x : Int32} {off : Int} {tgt : Nat} (hd : decode cc pc = .ok (.ifCond .ge off, 3)) (ht : (pc : Int) + off = (tgt : Int)) (kt : 0 ≤ x → av_V p l e R s m args below meth c D cl A ad ca nL Q cells slots tgt L st w) (kf : ¬ 0 ≤ x → av_V p l e R s m args below meth c D cl A ad ca nL Q cells slots (pc + 3) L st w) : av_V p l e R s m args below meth c D cl A ad ca nL Q cells slots pc L (.int x :: st) w := fun H locs ls hP hD hS hL => lv_if_ge K.1 K.2.1 hd ht (fun h => kt h H locs ls hP hD hS hL) (fun h => kf h H locs ls hP hD hS hL)
theorem av_icmp_ge (K : av_K p s m args meth c D cl ca A cc nL own Ts) {x y : Int32} {off : Int} {tgt : Nat} (hd : decode cc pc = .ok (.if_icmp .ge off, 3)) (ht : (pc : Int) + off = (tgt : Int)) (kt : y ≤ x → av_V p l e R s m args below meth c D cl A ad ca nL Q cells slots tgt L st w) (kf : ¬ y ≤ x → av_V p l e R s m args below meth c D cl A ad ca nL Q cells slots (pc + 3) L st w) : av_V p l e R s m args below meth c D cl A ad ca nL Q cells slots pc L (.int y :: .int x :: st) w := fun H locs ls hP hD hS hL => lv_icmp_ge K.1 K.2.1 hd ht (fun h => kt h H locs ls hP hD hS hL) (fun h => kf h H locs ls hP hD hS hL)
theorem av_if_gt (K : av_K p s m args meth c D cl ca A cc nL own Ts) {x : Int32} {off : Int} {tgt : Nat} (hd : decode cc pc = .ok (.ifCond .gt off, 3)) (ht : (pc : Int) + off = (tgt : Int)) (kt : 0 < x → av_V p l e R s m args below meth c D cl A ad ca nL Q cells slots tgt L st w) (kf : ¬ 0 < x → av_V p l e R s m args below meth c D cl A ad ca nL Q cells slots (pc + 3) L st w) : av_V p l e R s m args below meth c D cl A ad ca nL Q cells slots pc L (.int x :: st) w := fun H locs ls hP hD hS hL => lv_if_gt K.1 K.2.1 hd ht (fun h => kt h H locs ls hP hD hS hL) (fun h => kf h H locs ls hP hD hS hL)
theorem av_icmp_gt (K : av_K p s m args meth c D cl ca A cc nL own Ts) {x y : Int32} {off : Int} {tgt : Nat} (hd : decode cc pc = .ok (.if_icmp .gt off, 3)) (ht : (pc : Int) + off = (tgt : Int)) (kt : y < x → av_V p l e R s m args below meth c D cl A ad ca nL Q cells slots tgt L st w) (kf : ¬ y < x → av_V p l e R s m args below meth c D cl A ad ca nL Q cells slots (pc + 3) L st w) : av_V p l e R s m args below meth c D cl A ad ca nL Q cells slots pc L (.int y :: .int x :: st) w := fun H locs ls hP hD hS hL => lv_icmp_gt K.1 K.2.1 hd ht (fun h => kt h H locs ls hP hD hS hL) (fun h => kf h H locs ls hP hD hS hL)
theorem av_if_le (K : av_K p s m args meth c D cl ca A cc nL own Ts) {x : Int32} {off : Int} {tgt : Nat} (hd : decode cc pc = .ok (.ifCond .le off, 3)) (ht : (pc : Int) + off = (tgt : Int)) (kt : x ≤ 0 → av_V p l e R s m args below meth c D cl A ad ca nL Q cells slots tgt L st w) (kf : ¬ x ≤ 0 → av_V p l e R s m args below meth c D cl A ad ca nL Q cells slots (pc + 3) L st w) : av_V p l e R s m args below meth c D cl A ad ca nL Q cells slots pc L (.int x :: st) w := fun H locs ls hP hD hS hL => lv_if_le K.1 K.2.1 hd ht (fun h => kt h H locs ls hP hD hS hL) (fun h => kf h H locs ls hP hD hS hL)
theorem av_icmp_le (K : av_K p s m args meth c D cl ca A cc nL own Ts) {x y : Int32} {off : Int} {tgt : Nat} (hd : decode cc pc = .ok (.if_icmp .le off, 3)) (ht : (pc : Int) + off = (tgt : Int)) (kt : x ≤ y → av_V p l e R s m args below meth c D cl A ad ca nL Q cells slots tgt L st w) (kf : ¬ x ≤ y → av_V p l e R s m args below meth c D cl A ad ca nL Q cells slots (pc + 3) L st w) : av_V p l e R s m args below meth c D cl A ad ca nL Q cells slots pc L (.int y :: .int x :: st) w := fun H locs ls hP hD hS hL => lv_icmp_le K.1 K.2.1 hd ht (fun h => kt h H locs ls hP hD hS hL) (fun h => kf h H locs ls hP hD hS hL)
theorem av_goto (K : av_K p s m args meth c D cl ca A cc nL own Ts) {off : Int} {tgt : Nat} (hd : decode cc pc = .ok (.goto off, 3)) (ht : (pc : Int) + off = (tgt : Int)) (k : av_V p l e R s m args below meth c D cl A ad ca nL Q cells slots tgt L st w) : av_V p l e R s m args below meth c D cl A ad ca nL Q cells slots pc L st w := fun H locs ls hP hD hS hL => lv_goto K.1 K.2.1 hd ht (k H locs ls hP hD hS hL)
theorem av_ldc2 (K : av_K p s m args meth c D cl ca A cc nL own Ts) {index : Nat} {v : Int64} (hc : Cond.constantLong own index v ∈ Ts) (hd : decode cc pc = .ok (.ldc2_w index, 3)) (k : av_V p l e R s m args below meth c D cl A ad ca nL Q cells slots (pc + 3) L (.long v :: st) w) : av_V p l e R s m args below meth c D cl A ad ca nL Q cells slots pc L st w := fun H locs ls hP hD hS hL => lv_ldc2 K.1 K.2.1 K.2.2.2.1 (K.2.2.2.2.1 _ hc) hd (k H locs ls hP hD hS hL)
theorem av_ldc (K : av_K p s m args meth c D cl ca A cc nL own Ts) {index : Nat} {v : Int32} (hc : Cond.constant own index v ∈ Ts) (hd : decode cc pc = .ok (.ldc index, 2)) (k : av_V p l e R s m args below meth c D cl A ad ca nL Q cells slots (pc + 2) L (.int v :: st) w) : av_V p l e R s m args below meth c D cl A ad ca nL Q cells slots pc L st w := fun H locs ls hP hD hS hL => lv_ldc K.1 K.2.1 K.2.2.2.1 (K.2.2.2.2.1 _ hc) hd (k H locs ls hP hD hS hL)
theorem av_eq {pc' : Nat} {st' : List Value} (h1 : pc = pc') (h2 : L = L') (h3 : st = st') (h4 : w = w') (k : av_V p l e R s m args below meth c D cl A ad ca nL Q cells slots pc' L' st' w') : av_V p l e R s m args below meth c D cl A ad ca nL Q cells slots pc L st w := by subst h1; subst h2; subst h3; subst h4; exact k
/-- what an entry of a class's pool says of a field: class number ci, slot kf -/
def av_F (own : String) (Ts : List Cond) (cl : List vw_C) (index ci kf : Nat) : Prop := ∃ (C : String) (T : u_T) (N : Nat), cl[ci]? = some (C, T, N) ∧ kf < N ∧ (∀ w ∈ u_ws C T N, w ∈ Ts) ∧ Cond.fieldLink own index (T kf).1 (T kf).2.1 (T kf).2.2.1 ∈ Ts
def av_FN (own host : String) (Ts Ns : List Cond) (cl : List vw_C) (index ci kf : Nat) : Prop := ∃ (C : String) (T : u_T) (N : Nat), cl[ci]? = some (C, T, N) ∧ kf < N ∧ (∀ w ∈ u_ws C T N, w ∈ Ts) ∧ Cond.fieldLinkNest own index (T kf).1 (T kf).2.1 (T kf).2.2.1 host ∈ Ns
def av_FP (own : String) (Ts : List Cond) (cl : List vw_C) (index ci kf : Nat) (ty : FieldType) : Prop := ∃ (C : String) (T : u_T) (N : Nat) (ty0 : Nat → FieldType), cl[ci]? = some (C, T, N) ∧ kf < N ∧ (∀ w ∈ u_ws C T N, w ∈ Ts) ∧ Cond.fieldLink own index (T kf).1 (T kf).2.1 (T kf).2.2.1 ∈ Ts ∧
  (∀ k, k < N → parseFieldDescriptor (T k).2.2.1 = some (ty0 k)) ∧ (∀ a, a < N → ∀ b, b < N → a ≠ b → (T a).2.1 ≠ (T b).2.1) ∧ (T kf).2.2.2 = false ∧ parseFieldDescriptor (T kf).2.2.1 = some ty
theorem av_getf (K : av_K p s m args meth c D cl ca A cc nL own Ts) {index ci kf q : Nat} (f : av_F own Ts cl index ci kf) {fs : List Value} {v : Value} (hd : decode cc pc = .ok (.getfield index, 3)) (he : w[q]? = some (.inr (ci, fs))) (hv : fs[kf]? = some v) (k : av_V p l e R s m args below meth c D cl A ad ca nL Q cells slots (pc + 3) L (v :: st) w) : av_V p l e R s m args below meth c D cl A ad ca nL Q cells slots pc L (.ref q :: st) w := fun H locs ls hP hD hS hL => by
  obtain ⟨C, T, N, hc, hk, hin, hl⟩ := f
  exact va_get (D := D) (ci := ci) (v := ax_v ad v) (C := C) (T := T) (N := N) K.1 K.2.1 K.2.2.2.2.1 hin K.2.2.2.1 K.2.2.2.2.2.1 hP q (ax_W_at he) hc kf hk (K.2.2.2.2.1 _ hl) (fun _ h9 => h9) (by rw [List.getElem?_map, hv]; rfl) hd (k H locs ls hP hD hS hL)
theorem av_getfN (K : av_K p s m args meth c D cl ca A cc nL own Ts) {Ns : List Cond} (hN : ∀ w ∈ Ns, va_Nw w s) {index ci kf q : Nat} {host : String} (f : av_FN own host Ts Ns cl index ci kf) {fs : List Value} {v : Value} (hd : decode cc pc = .ok (.getfield index, 3)) (he : w[q]? = some (.inr (ci, fs))) (hv : fs[kf]? = some v) (k : av_V p l e R s m args below meth c D cl A ad ca nL Q cells slots (pc + 3) L (v :: st) w) : av_V p l e R s m args below meth c D cl A ad ca nL Q cells slots pc L (.ref q :: st) w := fun H locs ls hP hD hS hL => by
  obtain ⟨C, T, N, hc, hk, hin, hl⟩ := f
  exact va_getN (D := D) (ci := ci) (v := ax_v ad v) (C := C) (T := T) (N := N) K.1 K.2.1 K.2.2.2.2.1 hin K.2.2.2.1 K.2.2.2.2.2.1 hP q (ax_W_at he) hc kf hk (va_Nw.use rfl (hN _ hl)) (fun _ h9 => h9) (by rw [List.getElem?_map, hv]; rfl) hd (k H locs ls hP hD hS hL)
theorem av_putf (K : av_K p s m args meth c D cl ca A cc nL own Ts) {index ci kf q : Nat} {ty : FieldType} (f : av_FP own Ts cl index ci kf ty) {fs : List Value} {x : Int32} (hd : decode cc pc = .ok (.putfield index, 3)) (he : w[q]? = some (.inr (ci, fs))) (hn : narrow ty (.int x) = .int x) (hf : fits ty (.int x) = true) (hlen : kf < fs.length) (hw : w.set q (.inr (ci, fs.set kf (.int x))) = w') (k : av_V p l e R s m args below meth c D cl A ad ca nL Q cells slots (pc + 3) L st w') : av_V p l e R s m args below meth c D cl A ad ca nL Q cells slots pc L (.int x :: .ref q :: st) w := fun H locs ls hP hD hS hL => by
  obtain ⟨C, T, N, ty0, hc, hk, hin, hl, hty, hnm, hfin, hp⟩ := f
  have e1 : (ax_W ad ca w).set q (ad q, .inr (ci, (fs.map (ax_v ad)).set kf (.int x))) = ax_W ad ca w' := by
    rw [← hw, ← ax_W_set]
    show _ = (ax_W ad ca w).set q (ad q, .inr (ci, (fs.set kf (.int x)).map (ax_v ad)))
    rw [List.map_set]
    rfl
  refine va_put (D := D) (ci := ci) (v := .int x) (ty := ty) (C := C) (T := T) (N := N) K.1 K.2.1 K.2.2.2.2.1 hin ty0 hty hnm K.2.2.2.1 K.2.2.2.2.2.1 hP hD hS q (ax_W_at he) hc kf hk (K.2.2.2.2.1 _ hl) (fun _ h9 => h9) hfin hp hn hf (by rw [List.length_map]; exact hlen) hd (fun H1 locs1 hP1 hD1 hS1 => ?_)
  rw [e1] at hP1 hD1
  exact k H1 locs1 ls hP1 hD1 hS1 hL
theorem av_iald (K : av_K p s m args meth c D cl ca A cc nL own Ts) {q n : Nat} {f : Nat → Int32} {i : Int32} (hd : decode cc pc = .ok (.iaload, 1)) (he : w[q]? = some (.inl (0, n, .inl f))) (hin : vp_in i n) (k : av_V p l e R s m args below meth c D cl A ad ca nL Q cells slots (pc + 1) L (.int (f i.toNatClampNeg) :: st) w) : av_V p l e R s m args below meth c D cl A ad ca nL Q cells slots pc L (.int i :: .ref q :: st) w := fun H locs ls hP hD hS hL => va_iald K.1 K.2.1 K.2.2.2.2.2.1 hP q 0 (ax_W_at he) rfl hin hd (k H locs ls hP hD hS hL)
theorem av_lald (K : av_K p s m args meth c D cl ca A cc nL own Ts) {q n : Nat} {f : Nat → Int64} {i : Int32} (hd : decode cc pc = .ok (.laload, 1)) (he : w[q]? = some (.inl (1, n, .inr (.inl f)))) (hin : vp_in i n) (k : av_V p l e R s m args below meth c D cl A ad ca nL Q cells slots (pc + 1) L (.long (f i.toNatClampNeg) :: st) w) : av_V p l e R s m args below meth c D cl A ad ca nL Q cells slots pc L (.int i :: .ref q :: st) w := fun H locs ls hP hD hS hL => va_lald K.1 K.2.1 K.2.2.2.2.2.1 hP q 1 (ax_W_at he) rfl hin hd (k H locs ls hP hD hS hL)
theorem av_zald (K : av_K p s m args meth c D cl ca A cc nL own Ts) {q n : Nat} {f : Nat → Int32} {i : Int32} (hd : decode cc pc = .ok (.baload, 1)) (he : w[q]? = some (.inl (2, n, .inl f))) (hin : vp_in i n) (k : av_V p l e R s m args below meth c D cl A ad ca nL Q cells slots (pc + 1) L (.int (f i.toNatClampNeg) :: st) w) : av_V p l e R s m args below meth c D cl A ad ca nL Q cells slots pc L (.int i :: .ref q :: st) w := fun H locs ls hP hD hS hL => va_zald K.1 K.2.1 K.2.2.2.2.2.1 hP q 2 (ax_W_at he) rfl hin hd (k H locs ls hP hD hS hL)
theorem av_iast (K : av_K p s m args meth c D cl ca A cc nL own Ts) {q n : Nat} {f : Nat → Int32} {i : Int32} {x : Int32} (hd : decode cc pc = .ok (.iastore, 1)) (he : w[q]? = some (.inl (0, n, .inl f))) (hin : vp_in i n) (hw : w.set q (.inl (0, n, .inl (upd f i.toNatClampNeg x))) = w') (k : av_V p l e R s m args below meth c D cl A ad ca nL Q cells slots (pc + 1) L st w') : av_V p l e R s m args below meth c D cl A ad ca nL Q cells slots pc L (.int x :: .int i :: .ref q :: st) w := fun H locs ls hP hD hS hL => by
  have e1 : (ax_W ad ca w).set q (ad q, .inl (ca 0, n, .inl (upd f i.toNatClampNeg x))) = ax_W ad ca w' := by
    rw [← hw, ← ax_W_set]; rfl
  refine va_iast K.1 K.2.1 K.2.2.2.2.2.1 hP hD hS q 0 (ax_W_at he) rfl hin hd (fun H1 locs1 hP1 hD1 hS1 => ?_)
  rw [e1] at hP1 hD1
  exact k H1 locs1 ls hP1 hD1 hS1 hL
theorem av_last (K : av_K p s m args meth c D cl ca A cc nL own Ts) {q n : Nat} {f : Nat → Int64} {i : Int32} {x : Int64} (hd : decode cc pc = .ok (.lastore, 1)) (he : w[q]? = some (.inl (1, n, .inr (.inl f)))) (hin : vp_in i n) (hw : w.set q (.inl (1, n, .inr (.inl (vp_updL f i.toNatClampNeg x)))) = w') (k : av_V p l e R s m args below meth c D cl A ad ca nL Q cells slots (pc + 1) L st w') : av_V p l e R s m args below meth c D cl A ad ca nL Q cells slots pc L (.long x :: .int i :: .ref q :: st) w := fun H locs ls hP hD hS hL => by
  have e1 : (ax_W ad ca w).set q (ad q, .inl (ca 1, n, .inr (.inl (vp_updL f i.toNatClampNeg x)))) = ax_W ad ca w' := by
    rw [← hw, ← ax_W_set]; rfl
  refine va_last K.1 K.2.1 K.2.2.2.2.2.1 hP hD hS q 1 (ax_W_at he) rfl hin hd (fun H1 locs1 hP1 hD1 hS1 => ?_)
  rw [e1] at hP1 hD1
  exact k H1 locs1 ls hP1 hD1 hS1 hL
theorem av_zast (K : av_K p s m args meth c D cl ca A cc nL own Ts) {q n : Nat} {f : Nat → Int32} {i : Int32} {x : Int32} (hd : decode cc pc = .ok (.bastore, 1)) (he : w[q]? = some (.inl (2, n, .inl f))) (hin : vp_in i n) (hw : w.set q (.inl (2, n, .inl (upd f i.toNatClampNeg (vp_nar .boolean x)))) = w') (k : av_V p l e R s m args below meth c D cl A ad ca nL Q cells slots (pc + 1) L st w') : av_V p l e R s m args below meth c D cl A ad ca nL Q cells slots pc L (.int x :: .int i :: .ref q :: st) w := fun H locs ls hP hD hS hL => by
  have e1 : (ax_W ad ca w).set q (ad q, .inl (ca 2, n, .inl (upd f i.toNatClampNeg (vp_nar .boolean x)))) = ax_W ad ca w' := by
    rw [← hw, ← ax_W_set]; rfl
  refine va_zast K.1 K.2.1 K.2.2.2.2.2.1 hP hD hS q 2 (ax_W_at he) rfl hin hd (fun H1 locs1 hP1 hD1 hS1 => ?_)
  rw [e1] at hP1 hD1
  exact k H1 locs1 ls hP1 hD1 hS1 hL
theorem av_aald (K : av_K p s m args meth c D cl ca A cc nL own Ts) {q n j : Nat} {f : Nat → Option Nat} {i : Int32} (hd : decode cc pc = .ok (.aaload, 1)) (he : w[q]? = some (.inl (3, n, .inr (.inr (.inr (.inr f)))))) (hin : vp_in i n) (hj : f i.toNatClampNeg = some j) (k : av_V p l e R s m args below meth c D cl A ad ca nL Q cells slots (pc + 1) L (.ref j :: st) w) : av_V p l e R s m args below meth c D cl A ad ca nL Q cells slots pc L (.int i :: .ref q :: st) w := fun H locs ls hP hD hS hL => by
  have hlt : i.toNatClampNeg < n := Nat.not_le.mp fun q => hin (Or.inr q)
  have hc := hP q _ (ax_W_at he)
  refine W.aald (v := .ref (ad j)) (ty := .array .long) K.1 K.2.1 hc ((K.2.2.2.2.2.1.2 3 _ rfl).1 n (fun j => va_rf ((f j).map ad))) rfl (fun q => by cases q) (by show ¬ (i < 0 ∨ (arrV _ _ _).slots.size ≤ _); rw [arrV_size]; exact hin) ?_ rfl rfl hd (k H locs ls hP hD hS hL)
  show (arrV (ca 3) n (fun j => va_rf ((f j).map ad))).slots[i.toNatClampNeg]? = _
  rw [arrV_read _ _ hlt, hj]
  rfl
theorem av_iushr (K : av_K p s m args meth c D cl ca A cc nL own Ts) {x y : Int32} (hd : decode cc pc = .ok (.iushr, 1)) (k : av_V p l e R s m args below meth c D cl A ad ca nL Q cells slots (pc + 1) L (.int (x.toUInt32 >>> (y.toUInt32 &&& Int32.toUInt32 31)).toInt32 :: st) w) : av_V p l e R s m args below meth c D cl A ad ca nL Q cells slots pc L (.int y :: .int x :: st) w := fun H locs ls hP hD hS hL => lv_iushr K.1 K.2.1 hd rfl (k H locs ls hP hD hS hL)
theorem av_max (K : av_K p s m args meth c D cl ca A cc nL own Ts) {index : Nat} {x y : Int32} (hl : Cond.methodLink own index Lib.Math.max.name ∈ Ts) (hs : Cond.static Lib.Math.max.name ∈ Ts) (hi : Cond.initialized "java/lang/Math" ∈ Ts) (hco : Cond.code Lib.Math.max.name Lib.Math.max.code 2 (some .int) ∈ Ts) (hf : 1 ≤ R.frames) (hlo : (st.map Value.category).sum + 13 ≤ R.locals) (h1 : cells ≤ R.cells) (h2 : slots ≤ R.slots) (hd : decode cc pc = .ok (.invokestatic index, 3)) (k : av_V p l e R s m args below meth c D cl A ad ca nL Q cells slots (pc + 3) L (.int (if x < y then y else x) :: st) w) : av_V p l e R s m args below meth c D cl A ad ca nL Q cells slots pc L (.int y :: .int x :: st) w := fun H locs ls hP hD hS hL => va_mmax K.1 K.2.1 (K.2.2.1.trans hL.1.symm) K.2.2.2.1 (K.2.2.2.2.1 _ hl) (K.2.2.2.2.1 _ hs) (K.2.2.2.2.1 _ hi) (K.2.2.2.2.1 _ hco) hf (by rw [List.map_map]; simpa [Function.comp_def, ax_v_cat] using hlo) h1 h2 hd (k H locs ls hP hD hS hL)
end AV
end
section
/-! contracts over abstract worlds: the class's nest words and the table of masks stand beside every world -/
def av_NK (w : Cond) : Bool := match w with
  | .fieldLinkNest _ _ _ _ _ _ => true
  | .methodLinkNest _ _ _ _ => true
  | _ => false
theorem av_NW {w : Cond} (hw : av_NK w = true) {s U : State} (hW : s.WarmedH U.vm) (h : va_Nw w s) : va_Nw w U := by
  cases w with
  | fieldLinkNest a i b n d x => exact va_Nw.warmF hW h
  | methodLinkNest a i x y => exact va_Nw.warmM hW h
  | _ => cases hw
theorem av_NS {w : Cond} (hw : av_NK w = true) {u U : State} (hv : u.vm = U.vm) (h : va_Nw w u) : va_Nw w U := by
  cases w with
  | fieldLinkNest a i b n d x => exact va_Nw.same rfl hv h
  | methodLinkNest a i x y => exact va_Nw.same rfl hv h
  | _ => cases hw
def av_G (Ns : List Cond) (tab : Nat → Int64) (A : Nat → Prop) (U : State) (H : Heap) : Prop := Ns.all av_NK = true ∧ (∀ w ∈ Ns, va_Nw w U) ∧ ∃ t : Nat, va_Z "FaultTreeDesk" "ON_IN_WORD" "[J" (.ref t) A U H ∧ va_T .long t 6 (fun j => .long (tab j)) A U H
theorem av_G.to {Ns : List Cond} {tab : Nat → Int64} {A B : Nat → Prop} {s U : State} {H H1 : Heap} (h : av_G Ns tab A s H) (hW : s.WarmedH U.vm) (hq : ∀ a : Nat, a < H.size → ¬ A a → H1[a]? = H[a]?) (hAB : ∀ q, B q → A q) : av_G Ns tab B U H1 := by
  obtain ⟨h0, h1, t, hZ, hT⟩ := h
  exact ⟨h0, fun w hw => av_NW (List.all_eq_true.mp h0 w hw) hW (h1 w hw), t, ((va_Z.moved hW.alike hZ).kept hq).narrow hAB, ((va_T.moved hW.alike hT).kept hq).narrow hAB⟩
theorem av_G.calling {Ns : List Cond} {tab : Nat → Int64} {A : Nat → Prop} {U : State} {g : JFrame} {mk : MethodId} {a : Array Value} (h : av_G Ns tab A U U.heap) : av_G Ns tab A (U.calling g mk a) (U.calling g mk a).heap := by
  obtain ⟨h0, h1, t, hZ, hT⟩ := h
  exact ⟨h0, fun w hw => av_NS (u := U) (U := U.calling g mk a) (List.all_eq_true.mp h0 w hw) rfl (h1 w hw), t, va_Z.moved (u := U) (U := U.calling g mk a) (Vm.Alike.refl U.vm) hZ, va_T.moved (u := U) (U := U.calling g mk a) (Vm.Alike.refl U.vm) hT⟩
def av_Pre (D : va_G) (cl : List vw_C) (ca : Nat → Nat) (Ns : List Cond) (tab : Nat → Int64) (ad : Nat → Nat) (w : List va_E) (sz : Nat) (U : State) : Prop := U.heap.size = sz ∧ va_P D cl (ax_W ad ca w) U.heap ∧ va_K D cl (ax_ty ca) U ∧ va_D (fun _ => True) (ax_W ad ca w) ∧ av_G Ns tab (va_A (ax_W ad ca w) sz) U U.heap
def av_B (D : va_G) (cl : List vw_C) (ad ca : Nat → Nat) (A0 : Nat → Prop) (w' : List va_E) (t : State) : Prop := va_P D cl (ax_W ad ca w') t.heap ∧ va_D A0 (ax_W ad ca w')
theorem av_blind {D : va_G} {cl : List vw_C} {ca : Nat → Nat} {Ns : List Cond} {tab : Nat → Int64} {ad : Nat → Nat} {w : List va_E} {sz : Nat} {av : List Value} : FrameBlind (va_Pc av (av_Pre D cl ca Ns tab ad w sz)) :=
  fun a U g mk q => ⟨q.1, q.2.1, q.2.2.1, va_K.moved (u := U) (U := U.calling g mk a) (Vm.Alike.refl U.vm) q.2.2.2.1, q.2.2.2.2.1, q.2.2.2.2.2.calling⟩
/-- a method that answers an int (or a boolean), a long, nothing; that makes no cell and throws nothing -/
def av_Ci (l : Launch) (D : va_G) (cl : List vw_C) (ca : Nat → Nat) (Ns : List Cond) (tab : Nat → Int64) (y : MethodName) (ws : List Cond) (rm : Room) (as : List Value) (w : List va_E) (post : Int32 → List va_E → Prop) : Prop :=
  ∀ (ad : Nat → Nat) (sz : Nat), Met l y ws rm (va_Pc (as.map (ax_v ad)) (av_Pre D cl ca Ns tab ad w sz)) (va_Qi post (av_B D cl ad ca (va_A (ax_W ad ca w) sz)) (va_A (ax_W ad ca w) sz)) 0 0 (va_A (ax_W ad ca w) sz)
def av_Cl (l : Launch) (D : va_G) (cl : List vw_C) (ca : Nat → Nat) (Ns : List Cond) (tab : Nat → Int64) (y : MethodName) (ws : List Cond) (rm : Room) (as : List Value) (w : List va_E) (post : Int64 → List va_E → Prop) : Prop :=
  ∀ (ad : Nat → Nat) (sz : Nat), Met l y ws rm (va_Pc (as.map (ax_v ad)) (av_Pre D cl ca Ns tab ad w sz)) (va_Ql post (av_B D cl ad ca (va_A (ax_W ad ca w) sz)) (va_A (ax_W ad ca w) sz)) 0 0 (va_A (ax_W ad ca w) sz)
def av_Cv (l : Launch) (D : va_G) (cl : List vw_C) (ca : Nat → Nat) (Ns : List Cond) (tab : Nat → Int64) (y : MethodName) (ws : List Cond) (rm : Room) (as : List Value) (w : List va_E) (post : List va_E → Prop) : Prop :=
  ∀ (ad : Nat → Nat) (sz : Nat), Met l y ws rm (va_Pc (as.map (ax_v ad)) (av_Pre D cl ca Ns tab ad w sz)) (va_Qv post (av_B D cl ad ca (va_A (ax_W ad ca w) sz)) (va_A (ax_W ad ca w) sz)) 0 0 (va_A (ax_W ad ca w) sz)
section AC
variable {l : Launch} {D : va_G} {cl : List vw_C} {ca : Nat → Nat} {Ns : List Cond} {tab : Nat → Int64}
theorem av_inI {y : MethodName} {ws ws' : List Cond} {rm : Room} {as : List Value} {w : List va_E} {post : Int32 → List va_E → Prop} {cc : ByteArray} {nL : Nat} {ty : FieldType} (hy : plainName y.cls = true) (hw : ws = Cond.code y cc nL (some ty) :: ws') (hn : (ax_ar as).length ≤ nL)
    (h : ∀ (p : Program) (e : Env) (s : State) (m : MethodId) (args : Array Value) (below : List Frame) (meth : Method) (c : Code) (A : Nat → Prop) (ad : Nat → Nat), av_K p s m args meth c D cl ca A cc nL y.cls ws' → av_G Ns tab A s s.heap → meth.sig.returnType = some ty →
      av_V p l e rm s m args below meth c D cl A ad ca nL (MQ below (va_Qi post (av_B D cl ad ca A) A) args s 0 0 A) 0 0 0 (ax_en nL as) [] w) : av_Ci l D cl ca Ns tab y ws rm as w post := by
  intro ad sz
  refine Met.ofW (cc := cc) (maxL := nL) (ret := some ty) hy hw ?_
  intro p e s m args below meth c s₁ B hml hv
  obtain ⟨rfl, hsz, hP, hK, hD0, hG⟩ := hv
  subst hsz
  have hts := atoms_spec (ws := ws) B.pre
  have hD := hD0.self (sz := s.heap.size)
  generalize hAe : va_A (ax_W ad ca w) s.heap.size = A at hD hG ⊢
  have hA : ∀ q : Nat, s.heap.size ≤ q → A q := fun q h => by rw [← hAe]; exact Or.inr h
  rw [lg_entry_eq]
  exact h p e s m _ below meth c A ad ⟨B.exec, B.bytes, hml, findClass_of_methodNamed B.named, fun w h9 => hts w (by rw [hw]; exact List.mem_cons_of_mem _ h9), hK, hA, B.notSynchronized⟩ hG B.returns s.heap [] _ hP hD va_S.rf (ax_L.en ad as hn)
theorem av_inL {y : MethodName} {ws ws' : List Cond} {rm : Room} {as : List Value} {w : List va_E} {post : Int64 → List va_E → Prop} {cc : ByteArray} {nL : Nat} {ty : FieldType} (hy : plainName y.cls = true) (hw : ws = Cond.code y cc nL (some ty) :: ws') (hn : (ax_ar as).length ≤ nL)
    (h : ∀ (p : Program) (e : Env) (s : State) (m : MethodId) (args : Array Value) (below : List Frame) (meth : Method) (c : Code) (A : Nat → Prop) (ad : Nat → Nat), av_K p s m args meth c D cl ca A cc nL y.cls ws' → av_G Ns tab A s s.heap → meth.sig.returnType = some ty →
      av_V p l e rm s m args below meth c D cl A ad ca nL (MQ below (va_Ql post (av_B D cl ad ca A) A) args s 0 0 A) 0 0 0 (ax_en nL as) [] w) : av_Cl l D cl ca Ns tab y ws rm as w post := by
  intro ad sz
  refine Met.ofW (cc := cc) (maxL := nL) (ret := some ty) hy hw ?_
  intro p e s m args below meth c s₁ B hml hv
  obtain ⟨rfl, hsz, hP, hK, hD0, hG⟩ := hv
  subst hsz
  have hts := atoms_spec (ws := ws) B.pre
  have hD := hD0.self (sz := s.heap.size)
  generalize hAe : va_A (ax_W ad ca w) s.heap.size = A at hD hG ⊢
  have hA : ∀ q : Nat, s.heap.size ≤ q → A q := fun q h => by rw [← hAe]; exact Or.inr h
  rw [lg_entry_eq]
  exact h p e s m _ below meth c A ad ⟨B.exec, B.bytes, hml, findClass_of_methodNamed B.named, fun w h9 => hts w (by rw [hw]; exact List.mem_cons_of_mem _ h9), hK, hA, B.notSynchronized⟩ hG B.returns s.heap [] _ hP hD va_S.rf (ax_L.en ad as hn)
theorem av_inV {y : MethodName} {ws ws' : List Cond} {rm : Room} {as : List Value} {w : List va_E} {post : List va_E → Prop} {cc : ByteArray} {nL : Nat} (hy : plainName y.cls = true) (hw : ws = Cond.code y cc nL none :: ws') (hn : (ax_ar as).length ≤ nL)
    (h : ∀ (p : Program) (e : Env) (s : State) (m : MethodId) (args : Array Value) (below : List Frame) (meth : Method) (c : Code) (A : Nat → Prop) (ad : Nat → Nat), av_K p s m args meth c D cl ca A cc nL y.cls ws' → av_G Ns tab A s s.heap → meth.sig.returnType = none →
      av_V p l e rm s m args below meth c D cl A ad ca nL (MQ below (va_Qv post (av_B D cl ad ca A) A) args s 0 0 A) 0 0 0 (ax_en nL as) [] w) : av_Cv l D cl ca Ns tab y ws rm as w post := by
  intro ad sz
  refine Met.ofW (cc := cc) (maxL := nL) (ret := none) hy hw ?_
  intro p e s m args below meth c s₁ B hml hv
  obtain ⟨rfl, hsz, hP, hK, hD0, hG⟩ := hv
  subst hsz
  have hts := atoms_spec (ws := ws) B.pre
  have hD := hD0.self (sz := s.heap.size)
  generalize hAe : va_A (ax_W ad ca w) s.heap.size = A at hD hG ⊢
  have hA : ∀ q : Nat, s.heap.size ≤ q → A q := fun q h => by rw [← hAe]; exact Or.inr h
  rw [lg_entry_eq]
  exact h p e s m _ below meth c A ad ⟨B.exec, B.bytes, hml, findClass_of_methodNamed B.named, fun w h9 => hts w (by rw [hw]; exact List.mem_cons_of_mem _ h9), hK, hA, B.notSynchronized⟩ hG B.returns s.heap [] _ hP hD va_S.rf (ax_L.en ad as hn)
variable {p : Program} {e : Env} {R : Room} {s : State} {m : MethodId} {args : Array Value} {below : List Frame} {meth : Method} {c : Code} {cells slots : Nat} {Q : State → Prop}
variable {A : Nat → Prop} {ad : Nat → Nat} {cc : ByteArray} {nL : Nat} {own : String} {Ts : List Cond}
variable {pc : Nat} {L L' : List (Option Value)} {st st0 : List Value} {w w' : List va_E}
theorem av_ireturn (K : av_K p s m args meth c D cl ca A cc nL own Ts) {post : Int32 → List va_E → Prop} {v : Int32} (hr : meth.sig.returnType = some .int) (hd : decode cc pc = .ok (.ireturn, 1)) (hp : post v w) : av_V p l e R s m args below meth c D cl A ad ca nL (MQ below (va_Qi post (av_B D cl ad ca A) A) args s cells slots A) cells slots pc L [.int v] w :=
  fun H locs ls hP hD hS hL => W.iret (v := v) K.1 K.2.1 hr (fun t ht hW => ⟨⟨v, w, rfl, hp, by rw [ht]; exact hP, hD⟩, hS.F ht⟩) hS.2.2 hd K.2.2.2.2.2.2.2
theorem av_zreturn (K : av_K p s m args meth c D cl ca A cc nL own Ts) {post : Int32 → List va_E → Prop} {v : Int32} (hr : meth.sig.returnType = some .boolean) (hn : narrow .boolean (.int v) = .int v) (hd : decode cc pc = .ok (.ireturn, 1)) (hp : post v w) : av_V p l e R s m args below meth c D cl A ad ca nL (MQ below (va_Qi post (av_B D cl ad ca A) A) args s cells slots A) cells slots pc L [.int v] w :=
  fun H locs ls hP hD hS hL => W.zret (v := v) K.1 K.2.1 hr hn (fun t ht hW => ⟨⟨v, w, rfl, hp, by rw [ht]; exact hP, hD⟩, hS.F ht⟩) hS.2.2 hd K.2.2.2.2.2.2.2
theorem av_lreturn (K : av_K p s m args meth c D cl ca A cc nL own Ts) {post : Int64 → List va_E → Prop} {v : Int64} (hr : meth.sig.returnType = some .long) (hd : decode cc pc = .ok (.lreturn, 1)) (hp : post v w) : av_V p l e R s m args below meth c D cl A ad ca nL (MQ below (va_Ql post (av_B D cl ad ca A) A) args s cells slots A) cells slots pc L [.long v] w :=
  fun H locs ls hP hD hS hL => W.lret (v := v) K.1 K.2.1 hr (fun t ht hW => ⟨⟨v, w, rfl, hp, by rw [ht]; exact hP, hD⟩, hS.F ht⟩) hS.2.2 hd K.2.2.2.2.2.2.2
theorem av_return (K : av_K p s m args meth c D cl ca A cc nL own Ts) {post : List va_E → Prop} (hr : meth.sig.returnType = none) (hd : decode cc pc = .ok (.return_, 1)) (hp : post w) : av_V p l e R s m args below meth c D cl A ad ca nL (MQ below (va_Qv post (av_B D cl ad ca A) A) args s cells slots A) cells slots pc L [] w :=
  fun H locs ls hP hD hS hL => W.vret K.1 K.2.1 hr (fun t ht hW => ⟨⟨w, rfl, hp, by rw [ht]; exact hP, hD⟩, hS.F ht⟩) hS.2.2 hd K.2.2.2.2.2.2.2
theorem av_sub (K : av_K p s m args meth c D cl ca A cc nL own Ts) {H : Heap} {locs : List Loc} (hD : va_D A (ax_W ad ca w)) (hS : va_S A s.heap H locs) : ∀ q, va_A (ax_W ad ca w) H.size q → A q := by
  intro q h
  rcases h with ⟨k, e, h⟩ | h
  · exact hD.2 k (q, e) h
  · exact K.2.2.2.2.2.2.1 q (Nat.le_trans hS.1 h)
theorem av_pre (K : av_K p s m args meth c D cl ca A cc nL own Ts) (G : av_G Ns tab A s s.heap) {H : Heap} {locs : List Loc} (hP : va_P D cl (ax_W ad ca w) H) (hD : va_D A (ax_W ad ca w)) (hS : va_S A s.heap H locs) (av : List Value) : PreS s H (va_Pc (av.map (ax_v ad)) (av_Pre D cl ca Ns tab ad w H.size)) (av.map (ax_v ad)) :=
  ⟨av_blind, fun U hU hW => ⟨rfl, by rw [hU], by rw [hU]; exact hP, va_K.moved hW.alike K.2.2.2.2.2.1, hD.weaken (fun _ _ _ _ => trivial), by rw [hU]; exact G.to hW (fun a h1 h2 => hS.2.1 a h1 h2) (av_sub K hD hS)⟩⟩
/-- calls: virtual (V), static (S); int, long, nothing -/
theorem av_cVi (K : av_K p s m args meth c D cl ca A cc nL own Ts) (G : av_G Ns tab A s s.heap) {y : MethodName} {ws1 : List Cond} {rm : Room} {bytes : ByteArray} {maxL index n q ci : Nat} {ret : Option FieldType} {C : String} {T : u_T} {N : Nat} {fs As : List Value} {post : Int32 → List va_E → Prop} (cal : av_Ci l D cl ca Ns tab y ws1 rm (.ref q :: As) w post) (cw : CallW R s args own C index y bytes maxL ret ws1 rm 0 0 n)
    (hc : cl[ci]? = some (C, T, N)) (he : w[q]? = some (.inr (ci, fs))) (hn : As.length = n) (hst : As.reverse ++ .ref q :: st = st0) (hroom : (st.map Value.category).sum ≤ 8) (hd : decode cc pc = .ok (.invokevirtual index, 3)) (hf : cells ≤ R.cells ∧ slots ≤ R.slots)
    (k : ∀ r w', post r w' → av_V p l e R s m args below meth c D cl A ad ca nL Q cells slots (pc + 3) L (.int r :: st) w') : av_V p l e R s m args below meth c D cl A ad ca nL Q cells slots pc L st0 w := by
  intro H locs ls hP hD hS hL
  subst hst
  have hFc := av_sub K hD hS
  have hpr := av_pre K G hP hD hS (.ref q :: As)
  refine va_calli (va_runV (As := As.map (ax_v ad)) (rest := st.map (ax_v ad)) ⟨K.1, K.2.1, K.2.2.1, K.2.2.2.1, K.2.2.2.2.1⟩ (cal ad H.size) cw ⟨hpr.1, va_recv K.2.2.2.2.2.1 hP hc (ax_W_at he), hpr.2⟩ rfl (by rw [List.length_map]; exact hn) hL.1 (by simp [ax_v]) (lv_room (by rw [List.map_map]; simpa [Function.comp_def, ax_v_cat] using hroom)) hd hf) hS (fun q _ h => hFc q h) hFc (fun r w' t H1 locs1 ht hvm hp hB hz1 hk1 hS1 => ?_)
  obtain ⟨hP1, hD1⟩ := hB
  rw [ht] at hP1
  exact k r w' hp H1 locs1 ls hP1 (hD1.weaken (fun _ q _ h => hFc q.1 h)) hS1 hL
theorem av_cVl (K : av_K p s m args meth c D cl ca A cc nL own Ts) (G : av_G Ns tab A s s.heap) {y : MethodName} {ws1 : List Cond} {rm : Room} {bytes : ByteArray} {maxL index n q ci : Nat} {ret : Option FieldType} {C : String} {T : u_T} {N : Nat} {fs As : List Value} {post : Int64 → List va_E → Prop} (cal : av_Cl l D cl ca Ns tab y ws1 rm (.ref q :: As) w post) (cw : CallW R s args own C index y bytes maxL ret ws1 rm 0 0 n)
    (hc : cl[ci]? = some (C, T, N)) (he : w[q]? = some (.inr (ci, fs))) (hn : As.length = n) (hst : As.reverse ++ .ref q :: st = st0) (hroom : (st.map Value.category).sum ≤ 8) (hd : decode cc pc = .ok (.invokevirtual index, 3)) (hf : cells ≤ R.cells ∧ slots ≤ R.slots)
    (k : ∀ r w', post r w' → av_V p l e R s m args below meth c D cl A ad ca nL Q cells slots (pc + 3) L (.long r :: st) w') : av_V p l e R s m args below meth c D cl A ad ca nL Q cells slots pc L st0 w := by
  intro H locs ls hP hD hS hL
  subst hst
  have hFc := av_sub K hD hS
  have hpr := av_pre K G hP hD hS (.ref q :: As)
  refine va_calll (va_runV (As := As.map (ax_v ad)) (rest := st.map (ax_v ad)) ⟨K.1, K.2.1, K.2.2.1, K.2.2.2.1, K.2.2.2.2.1⟩ (cal ad H.size) cw ⟨hpr.1, va_recv K.2.2.2.2.2.1 hP hc (ax_W_at he), hpr.2⟩ rfl (by rw [List.length_map]; exact hn) hL.1 (by simp [ax_v]) (lv_room (by rw [List.map_map]; simpa [Function.comp_def, ax_v_cat] using hroom)) hd hf) hS (fun q _ h => hFc q h) hFc (fun r w' t H1 locs1 ht hvm hp hB hz1 hk1 hS1 => ?_)
  obtain ⟨hP1, hD1⟩ := hB
  rw [ht] at hP1
  exact k r w' hp H1 locs1 ls hP1 (hD1.weaken (fun _ q _ h => hFc q.1 h)) hS1 hL
theorem av_cVv (K : av_K p s m args meth c D cl ca A cc nL own Ts) (G : av_G Ns tab A s s.heap) {y : MethodName} {ws1 : List Cond} {rm : Room} {bytes : ByteArray} {maxL index n q ci : Nat} {ret : Option FieldType} {C : String} {T : u_T} {N : Nat} {fs As : List Value} {post : List va_E → Prop} (cal : av_Cv l D cl ca Ns tab y ws1 rm (.ref q :: As) w post) (cw : CallW R s args own C index y bytes maxL ret ws1 rm 0 0 n)
    (hc : cl[ci]? = some (C, T, N)) (he : w[q]? = some (.inr (ci, fs))) (hn : As.length = n) (hst : As.reverse ++ .ref q :: st = st0) (hroom : (st.map Value.category).sum ≤ 8) (hd : decode cc pc = .ok (.invokevirtual index, 3)) (hf : cells ≤ R.cells ∧ slots ≤ R.slots)
    (k : ∀ w', post w' → av_V p l e R s m args below meth c D cl A ad ca nL Q cells slots (pc + 3) L st w') : av_V p l e R s m args below meth c D cl A ad ca nL Q cells slots pc L st0 w := by
  intro H locs ls hP hD hS hL
  subst hst
  have hFc := av_sub K hD hS
  have hpr := av_pre K G hP hD hS (.ref q :: As)
  refine va_callv (va_runV (As := As.map (ax_v ad)) (rest := st.map (ax_v ad)) ⟨K.1, K.2.1, K.2.2.1, K.2.2.2.1, K.2.2.2.2.1⟩ (cal ad H.size) cw ⟨hpr.1, va_recv K.2.2.2.2.2.1 hP hc (ax_W_at he), hpr.2⟩ rfl (by rw [List.length_map]; exact hn) hL.1 (by simp [ax_v]) (lv_room (by rw [List.map_map]; simpa [Function.comp_def, ax_v_cat] using hroom)) hd hf) hS (fun q _ h => hFc q h) hFc (fun w' t H1 locs1 ht hvm hp hB hz1 hk1 hS1 => ?_)
  obtain ⟨hP1, hD1⟩ := hB
  rw [ht] at hP1
  exact k w' hp H1 locs1 ls hP1 (hD1.weaken (fun _ q _ h => hFc q.1 h)) hS1 hL
theorem av_cSi (K : av_K p s m args meth c D cl ca A cc nL own Ts) (G : av_G Ns tab A s s.heap) {y : MethodName} {ws1 : List Cond} {rm : Room} {bytes : ByteArray} {maxL index n : Nat} {ret : Option FieldType} {As : List Value} {post : Int32 → List va_E → Prop} (cal : av_Ci l D cl ca Ns tab y ws1 rm As w post) (cw : CallB R s args own index y bytes maxL ret ws1 rm 0 0 n ∧ (Cond.static y).before args s = true)
    (hn : As.length = n) (hst : As.reverse ++ st = st0) (hroom : (st.map Value.category).sum ≤ 8) (hd : decode cc pc = .ok (.invokestatic index, 3)) (hf : cells ≤ R.cells ∧ slots ≤ R.slots)
    (k : ∀ r w', post r w' → av_V p l e R s m args below meth c D cl A ad ca nL Q cells slots (pc + 3) L (.int r :: st) w') : av_V p l e R s m args below meth c D cl A ad ca nL Q cells slots pc L st0 w := by
  intro H locs ls hP hD hS hL
  subst hst
  have hFc := av_sub K hD hS
  refine va_calli (va_runS (As := As.map (ax_v ad)) (rest := st.map (ax_v ad)) ⟨K.1, K.2.1, K.2.2.1, K.2.2.2.1, K.2.2.2.2.1⟩ (cal ad H.size) cw (av_pre K G hP hD hS As) rfl (by rw [List.length_map]; exact hn) hL.1 (by simp) (lv_room (by rw [List.map_map]; simpa [Function.comp_def, ax_v_cat] using hroom)) hd hf) hS (fun q _ h => hFc q h) hFc (fun r w' t H1 locs1 ht hvm hp hB hz1 hk1 hS1 => ?_)
  obtain ⟨hP1, hD1⟩ := hB
  rw [ht] at hP1
  exact k r w' hp H1 locs1 ls hP1 (hD1.weaken (fun _ q _ h => hFc q.1 h)) hS1 hL
theorem av_cSl (K : av_K p s m args meth c D cl ca A cc nL own Ts) (G : av_G Ns tab A s s.heap) {y : MethodName} {ws1 : List Cond} {rm : Room} {bytes : ByteArray} {maxL index n : Nat} {ret : Option FieldType} {As : List Value} {post : Int64 → List va_E → Prop} (cal : av_Cl l D cl ca Ns tab y ws1 rm As w post) (cw : CallB R s args own index y bytes maxL ret ws1 rm 0 0 n ∧ (Cond.static y).before args s = true)
    (hn : As.length = n) (hst : As.reverse ++ st = st0) (hroom : (st.map Value.category).sum ≤ 8) (hd : decode cc pc = .ok (.invokestatic index, 3)) (hf : cells ≤ R.cells ∧ slots ≤ R.slots)
    (k : ∀ r w', post r w' → av_V p l e R s m args below meth c D cl A ad ca nL Q cells slots (pc + 3) L (.long r :: st) w') : av_V p l e R s m args below meth c D cl A ad ca nL Q cells slots pc L st0 w := by
  intro H locs ls hP hD hS hL
  subst hst
  have hFc := av_sub K hD hS
  refine va_calll (va_runS (As := As.map (ax_v ad)) (rest := st.map (ax_v ad)) ⟨K.1, K.2.1, K.2.2.1, K.2.2.2.1, K.2.2.2.2.1⟩ (cal ad H.size) cw (av_pre K G hP hD hS As) rfl (by rw [List.length_map]; exact hn) hL.1 (by simp) (lv_room (by rw [List.map_map]; simpa [Function.comp_def, ax_v_cat] using hroom)) hd hf) hS (fun q _ h => hFc q h) hFc (fun r w' t H1 locs1 ht hvm hp hB hz1 hk1 hS1 => ?_)
  obtain ⟨hP1, hD1⟩ := hB
  rw [ht] at hP1
  exact k r w' hp H1 locs1 ls hP1 (hD1.weaken (fun _ q _ h => hFc q.1 h)) hS1 hL
/-- the table of masks: getstatic, an index from the locals, laload -/
theorem av_tab (K : av_K p s m args meth c D cl ca A cc nL own Ts) (G : av_G Ns tab A s s.heap) {index : Nat} {host : String} {i : Int32} (hl : Cond.fieldLinkNest own index "FaultTreeDesk" "ON_IN_WORD" "[J" host ∈ Ns) (hd : decode cc pc = .ok (.getstatic index, 3)) {pc2 : Nat} (hld : ∀ (H : Heap) (locs : List Loc) (ls : Array Slot) (rest : List Value), ax_L ls nL ad L → W p l e R s m args below meth c H locs cells slots Q (F0 m pc2 ls (.int i :: rest)) → W p l e R s m args below meth c H locs cells slots Q (F0 m (pc + 3) ls rest)) (hd2 : decode cc pc2 = .ok (.laload, 1)) (hin : ¬ (i < 0 ∨ 6 ≤ i.toNatClampNeg))
    (k : av_V p l e R s m args below meth c D cl A ad ca nL Q cells slots (pc2 + 1) L (.long (tab i.toNatClampNeg) :: st) w) : av_V p l e R s m args below meth c D cl A ad ca nL Q cells slots pc L st w := by
  intro H locs ls hP hD hS hL
  obtain ⟨-, hN, t, hZ, hT⟩ := G
  refine va_getsN K.1 K.2.1 hZ hS K.2.2.2.1 (va_Nw.use rfl (hN _ hl)) (fun _ h => h) hd ?_
  refine hld H locs ls _ hL ?_
  exact va_tl K.1 K.2.1 hT hS hin rfl hd2 (k H locs ls hP hD hS hL)
end AC
abbrev av_VI (p : Program) (l : Launch) (e : Env) (R : Room) (s : State) (m : MethodId) (args : Array Value) (below : List Frame) (meth : Method) (c : Code) (D : va_G) (cl : List vw_C) (A : Nat → Prop) (ad ca : Nat → Nat) (nL : Nat) (r : Int32 × List va_E) (pc : Nat) (L : List (Option Value)) (st : List Value) (w : List va_E) : Prop := av_V p l e R s m args below meth c D cl A ad ca nL (MQ below (va_Qi (fun v u => (v, u) = r) (av_B D cl ad ca A) A) args s 0 0 A) 0 0 pc L st w
abbrev av_VL (p : Program) (l : Launch) (e : Env) (R : Room) (s : State) (m : MethodId) (args : Array Value) (below : List Frame) (meth : Method) (c : Code) (D : va_G) (cl : List vw_C) (A : Nat → Prop) (ad ca : Nat → Nat) (nL : Nat) (r : Int64 × List va_E) (pc : Nat) (L : List (Option Value)) (st : List Value) (w : List va_E) : Prop := av_V p l e R s m args below meth c D cl A ad ca nL (MQ below (va_Ql (fun v u => (v, u) = r) (av_B D cl ad ca A) A) args s 0 0 A) 0 0 pc L st w
abbrev av_VV (p : Program) (l : Launch) (e : Env) (R : Room) (s : State) (m : MethodId) (args : Array Value) (below : List Frame) (meth : Method) (c : Code) (D : va_G) (cl : List vw_C) (A : Nat → Prop) (ad ca : Nat → Nat) (nL : Nat) (r : List va_E) (pc : Nat) (L : List (Option Value)) (st : List Value) (w : List va_E) : Prop := av_V p l e R s m args below meth c D cl A ad ca nL (MQ below (va_Qv (fun u => u = r) (av_B D cl ad ca A) A) args s 0 0 A) 0 0 pc L st w
end
section
/-! the heap's own readers and writers over abstract worlds: none where the machine would throw or where the cell is of another kind -/
def hp_gi (w : List va_E) (q ci k : Nat) : Option Int32 := match w[q]? with
  | some (.inr (c, fs)) => if c = ci then (match fs[k]? with
    | some (.int x) => some x
    | _ => none) else none
  | _ => none
def hp_gr (w : List va_E) (q ci k : Nat) : Option Nat := match w[q]? with
  | some (.inr (c, fs)) => if c = ci then (match fs[k]? with
    | some (.ref x) => some x
    | _ => none) else none
  | _ => none
def hp_pi (w : List va_E) (q ci k : Nat) (x : Int32) : Option (List va_E) := match w[q]? with
  | some (.inr (c, fs)) => if c = ci ∧ k < fs.length then some (w.set q (.inr (c, fs.set k (.int x)))) else none
  | _ => none
def hp_pz (w : List va_E) (q ci k : Nat) (x : Int32) : Option (List va_E) := if x = 0 ∨ x = 1 then hp_pi w q ci k x else none
def hp_ri (w : List va_E) (q : Nat) (i : Int32) : Option Int32 := match w[q]? with
  | some (.inl (c, n, .inl f)) => if c = 0 ∧ ¬ (i < 0 ∨ n ≤ i.toNatClampNeg) then some (f i.toNatClampNeg) else none
  | _ => none
def hp_rz (w : List va_E) (q : Nat) (i : Int32) : Option Int32 := match w[q]? with
  | some (.inl (c, n, .inl f)) => if c = 2 ∧ ¬ (i < 0 ∨ n ≤ i.toNatClampNeg) then some (f i.toNatClampNeg) else none
  | _ => none
def hp_rl (w : List va_E) (q : Nat) (i : Int32) : Option Int64 := match w[q]? with
  | some (.inl (c, n, .inr (.inl f))) => if c = 1 ∧ ¬ (i < 0 ∨ n ≤ i.toNatClampNeg) then some (f i.toNatClampNeg) else none
  | _ => none
def hp_ra (w : List va_E) (q : Nat) (i : Int32) : Option Nat := match w[q]? with
  | some (.inl (c, n, .inr (.inr (.inr (.inr f))))) => if c = 3 ∧ ¬ (i < 0 ∨ n ≤ i.toNatClampNeg) then f i.toNatClampNeg else none
  | _ => none
def hp_wi (w : List va_E) (q : Nat) (i : Int32) (x : Int32) : Option (List va_E) := match w[q]? with
  | some (.inl (c, n, .inl f)) => if c = 0 ∧ ¬ (i < 0 ∨ n ≤ i.toNatClampNeg) then some (w.set q (.inl (c, n, .inl (upd f i.toNatClampNeg x)))) else none
  | _ => none
def hp_wz (w : List va_E) (q : Nat) (i : Int32) (x : Int32) : Option (List va_E) := match w[q]? with
  | some (.inl (c, n, .inl f)) => if c = 2 ∧ ¬ (i < 0 ∨ n ≤ i.toNatClampNeg) then some (w.set q (.inl (c, n, .inl (upd f i.toNatClampNeg (vp_nar .boolean x))))) else none
  | _ => none
def hp_wl (w : List va_E) (q : Nat) (i : Int32) (x : Int64) : Option (List va_E) := match w[q]? with
  | some (.inl (c, n, .inr (.inl f))) => if c = 1 ∧ ¬ (i < 0 ∨ n ≤ i.toNatClampNeg) then some (w.set q (.inl (c, n, .inr (.inl (vp_updL f i.toNatClampNeg x))))) else none
  | _ => none
theorem hp_gi_of {w : List va_E} {q ci k : Nat} {x : Int32} (h : hp_gi w q ci k = some x) : ∃ fs, w[q]? = some (.inr (ci, fs)) ∧ fs[k]? = some (.int x) := by
  unfold hp_gi at h
  split at h
  · rename_i c fs hq
    split at h
    · rename_i hc
      subst hc
      split at h
      · rename_i y hy
        cases h
        exact ⟨fs, hq, hy⟩
      · cases h
    · cases h
  · cases h
theorem hp_gr_of {w : List va_E} {q ci k x : Nat} (h : hp_gr w q ci k = some x) : ∃ fs, w[q]? = some (.inr (ci, fs)) ∧ fs[k]? = some (.ref x) := by
  unfold hp_gr at h
  split at h
  · rename_i c fs hq
    split at h
    · rename_i hc
      subst hc
      split at h
      · rename_i y hy
        cases h
        exact ⟨fs, hq, hy⟩
      · cases h
    · cases h
  · cases h
theorem hp_pi_of {w w' : List va_E} {q ci k : Nat} {x : Int32} (h : hp_pi w q ci k x = some w') : ∃ fs, w[q]? = some (.inr (ci, fs)) ∧ k < fs.length ∧ w.set q (.inr (ci, fs.set k (.int x))) = w' := by
  unfold hp_pi at h
  split at h
  · rename_i c fs hq
    split at h
    · rename_i hc
      obtain ⟨hc, hk⟩ := hc
      subst hc
      cases h
      exact ⟨fs, hq, hk, rfl⟩
    · cases h
  · cases h
theorem hp_ri_of {w : List va_E} {q : Nat} {i x : Int32} (h : hp_ri w q i = some x) : ∃ n f, w[q]? = some (.inl (0, n, .inl f)) ∧ vp_in i n ∧ f i.toNatClampNeg = x := by
  unfold hp_ri at h
  split at h
  · rename_i c n f hq
    split at h
    · rename_i hc
      obtain ⟨hc, hk⟩ := hc
      subst hc
      cases h
      exact ⟨n, f, hq, hk, rfl⟩
    · cases h
  · cases h
theorem hp_rz_of {w : List va_E} {q : Nat} {i x : Int32} (h : hp_rz w q i = some x) : ∃ n f, w[q]? = some (.inl (2, n, .inl f)) ∧ vp_in i n ∧ f i.toNatClampNeg = x := by
  unfold hp_rz at h
  split at h
  · rename_i c n f hq
    split at h
    · rename_i hc
      obtain ⟨hc, hk⟩ := hc
      subst hc
      cases h
      exact ⟨n, f, hq, hk, rfl⟩
    · cases h
  · cases h
theorem hp_rl_of {w : List va_E} {q : Nat} {i : Int32} {x : Int64} (h : hp_rl w q i = some x) : ∃ n f, w[q]? = some (.inl (1, n, .inr (.inl f))) ∧ vp_in i n ∧ f i.toNatClampNeg = x := by
  unfold hp_rl at h
  split at h
  · rename_i c n f hq
    split at h
    · rename_i hc
      obtain ⟨hc, hk⟩ := hc
      subst hc
      cases h
      exact ⟨n, f, hq, hk, rfl⟩
    · cases h
  · cases h
theorem hp_ra_of {w : List va_E} {q x : Nat} {i : Int32} (h : hp_ra w q i = some x) : ∃ n f, w[q]? = some (.inl (3, n, .inr (.inr (.inr (.inr f))))) ∧ vp_in i n ∧ f i.toNatClampNeg = some x := by
  unfold hp_ra at h
  split at h
  · rename_i c n f hq
    split at h
    · rename_i hc
      obtain ⟨hc, hk⟩ := hc
      subst hc
      exact ⟨n, f, hq, hk, h⟩
    · cases h
  · cases h
theorem hp_wi_of {w w' : List va_E} {q : Nat} {i x : Int32} (h : hp_wi w q i x = some w') : ∃ n f, w[q]? = some (.inl (0, n, .inl f)) ∧ vp_in i n ∧ w.set q (.inl (0, n, .inl (upd f i.toNatClampNeg x))) = w' := by
  unfold hp_wi at h
  split at h
  · rename_i c n f hq
    split at h
    · rename_i hc
      obtain ⟨hc, hk⟩ := hc
      subst hc
      cases h
      exact ⟨n, f, hq, hk, rfl⟩
    · cases h
  · cases h
theorem hp_wz_of {w w' : List va_E} {q : Nat} {i x : Int32} (h : hp_wz w q i x = some w') : ∃ n f, w[q]? = some (.inl (2, n, .inl f)) ∧ vp_in i n ∧ w.set q (.inl (2, n, .inl (upd f i.toNatClampNeg (vp_nar .boolean x)))) = w' := by
  unfold hp_wz at h
  split at h
  · rename_i c n f hq
    split at h
    · rename_i hc
      obtain ⟨hc, hk⟩ := hc
      subst hc
      cases h
      exact ⟨n, f, hq, hk, rfl⟩
    · cases h
  · cases h
theorem hp_wl_of {w w' : List va_E} {q : Nat} {i : Int32} {x : Int64} (h : hp_wl w q i x = some w') : ∃ n f, w[q]? = some (.inl (1, n, .inr (.inl f))) ∧ vp_in i n ∧ w.set q (.inl (1, n, .inr (.inl (vp_updL f i.toNatClampNeg x)))) = w' := by
  unfold hp_wl at h
  split at h
  · rename_i c n f hq
    split at h
    · rename_i hc
      obtain ⟨hc, hk⟩ := hc
      subst hc
      cases h
      exact ⟨n, f, hq, hk, rfl⟩
    · cases h
  · cases h
def hp_is (w : List va_E) (q ci : Nat) : Option Unit := match w[q]? with
  | some (.inr (c, _)) => if c = ci then some () else none
  | _ => none
theorem hp_is_of {w : List va_E} {q ci : Nat} {u : Unit} (h : hp_is w q ci = some u) : ∃ fs, w[q]? = some (.inr (ci, fs)) := by
  unfold hp_is at h
  split at h
  · rename_i c fs hq
    split at h
    · rename_i hc
      subst hc
      exact ⟨fs, hq⟩
    · cases h
  · cases h
theorem hp_if {α : Type} {c : Prop} [Decidable c] {o : Option α} {r : α} (h : (if c then o else none) = some r) : c ∧ o = some r := by
  by_cases hc : c
  · rw [if_pos hc] at h; exact ⟨hc, h⟩
  · rw [if_neg hc] at h; cases h
theorem hp_bd {α β : Type} {o : Option α} {f : α → Option β} {r : β} (h : o.bind f = some r) : ∃ x, o = some x ∧ f x = some r := by
  cases o with
  | none => cases h
  | some x => exact ⟨x, rfl, h⟩
theorem hp_nz {x : Int32} (h : x = 0 ∨ x = 1) : narrow .boolean (.int x) = .int x := by
  rcases h with h | h <;> subst h <;> decide +kernel
theorem hp_fz {x : Int32} (h : x = 0 ∨ x = 1) : fits .boolean (.int x) = true := by
  rcases h with h | h <;> subst h <;> decide +kernel
section HP
variable {p : Program} {l : Launch} {e : Env} {R : Room} {s : State} {m : MethodId} {args : Array Value} {below : List Frame} {meth : Method} {c : Code} {cells slots : Nat} {Q : State → Prop}
variable {D : va_G} {cl : List vw_C} {ca : Nat → Nat} {A : Nat → Prop} {ad : Nat → Nat} {cc : ByteArray} {nL : Nat} {own : String} {Ts : List Cond}
variable {pc : Nat} {L L' : List (Option Value)} {st : List Value} {w w' : List va_E}
theorem hv_gi (K : av_K p s m args meth c D cl ca A cc nL own Ts) {index ci kf q : Nat} {x : Int32} (f : av_F own Ts cl index ci kf) (hd : decode cc pc = .ok (.getfield index, 3)) (h : hp_gi w q ci kf = some x) (k : av_V p l e R s m args below meth c D cl A ad ca nL Q cells slots (pc + 3) L (.int x :: st) w) : av_V p l e R s m args below meth c D cl A ad ca nL Q cells slots pc L (.ref q :: st) w := by
  obtain ⟨fs, h1, h2⟩ := hp_gi_of h
  exact av_getf K f hd h1 h2 k
theorem hv_gr (K : av_K p s m args meth c D cl ca A cc nL own Ts) {index ci kf q x : Nat} (f : av_F own Ts cl index ci kf) (hd : decode cc pc = .ok (.getfield index, 3)) (h : hp_gr w q ci kf = some x) (k : av_V p l e R s m args below meth c D cl A ad ca nL Q cells slots (pc + 3) L (.ref x :: st) w) : av_V p l e R s m args below meth c D cl A ad ca nL Q cells slots pc L (.ref q :: st) w := by
  obtain ⟨fs, h1, h2⟩ := hp_gr_of h
  exact av_getf K f hd h1 h2 k
theorem hv_giN (K : av_K p s m args meth c D cl ca A cc nL own Ts) {Ns : List Cond} {tab : Nat → Int64} (G : av_G Ns tab A s s.heap) {index ci kf q : Nat} {host : String} {x : Int32} (f : av_FN own host Ts Ns cl index ci kf) (hd : decode cc pc = .ok (.getfield index, 3)) (h : hp_gi w q ci kf = some x) (k : av_V p l e R s m args below meth c D cl A ad ca nL Q cells slots (pc + 3) L (.int x :: st) w) : av_V p l e R s m args below meth c D cl A ad ca nL Q cells slots pc L (.ref q :: st) w := by
  obtain ⟨fs, h1, h2⟩ := hp_gi_of h
  exact av_getfN K G.2.1 f hd h1 h2 k
theorem hv_grN (K : av_K p s m args meth c D cl ca A cc nL own Ts) {Ns : List Cond} {tab : Nat → Int64} (G : av_G Ns tab A s s.heap) {index ci kf q x : Nat} {host : String} (f : av_FN own host Ts Ns cl index ci kf) (hd : decode cc pc = .ok (.getfield index, 3)) (h : hp_gr w q ci kf = some x) (k : av_V p l e R s m args below meth c D cl A ad ca nL Q cells slots (pc + 3) L (.ref x :: st) w) : av_V p l e R s m args below meth c D cl A ad ca nL Q cells slots pc L (.ref q :: st) w := by
  obtain ⟨fs, h1, h2⟩ := hp_gr_of h
  exact av_getfN K G.2.1 f hd h1 h2 k
theorem hv_pi (K : av_K p s m args meth c D cl ca A cc nL own Ts) {index ci kf q : Nat} {x : Int32} (f : av_FP own Ts cl index ci kf .int) (hd : decode cc pc = .ok (.putfield index, 3)) (h : hp_pi w q ci kf x = some w') (k : av_V p l e R s m args below meth c D cl A ad ca nL Q cells slots (pc + 3) L st w') : av_V p l e R s m args below meth c D cl A ad ca nL Q cells slots pc L (.int x :: .ref q :: st) w := by
  obtain ⟨fs, h1, h2, h3⟩ := hp_pi_of h
  exact av_putf K f hd h1 rfl rfl h2 h3 k
theorem hv_pz (K : av_K p s m args meth c D cl ca A cc nL own Ts) {index ci kf q : Nat} {x : Int32} (f : av_FP own Ts cl index ci kf .boolean) (hd : decode cc pc = .ok (.putfield index, 3)) (h : hp_pz w q ci kf x = some w') (k : av_V p l e R s m args below meth c D cl A ad ca nL Q cells slots (pc + 3) L st w') : av_V p l e R s m args below meth c D cl A ad ca nL Q cells slots pc L (.int x :: .ref q :: st) w := by
  unfold hp_pz at h
  split at h
  · rename_i hx
    obtain ⟨fs, h1, h2, h3⟩ := hp_pi_of h
    exact av_putf K f hd h1 (hp_nz hx) (hp_fz hx) h2 h3 k
  · cases h
theorem hv_ri (K : av_K p s m args meth c D cl ca A cc nL own Ts) {q : Nat} {i x : Int32} (hd : decode cc pc = .ok (.iaload, 1)) (h : hp_ri w q i = some x) (k : av_V p l e R s m args below meth c D cl A ad ca nL Q cells slots (pc + 1) L (.int x :: st) w) : av_V p l e R s m args below meth c D cl A ad ca nL Q cells slots pc L (.int i :: .ref q :: st) w := by
  obtain ⟨n, f, h1, h2, h3⟩ := hp_ri_of h
  subst h3
  exact av_iald K hd h1 h2 k
theorem hv_rz (K : av_K p s m args meth c D cl ca A cc nL own Ts) {q : Nat} {i x : Int32} (hd : decode cc pc = .ok (.baload, 1)) (h : hp_rz w q i = some x) (k : av_V p l e R s m args below meth c D cl A ad ca nL Q cells slots (pc + 1) L (.int x :: st) w) : av_V p l e R s m args below meth c D cl A ad ca nL Q cells slots pc L (.int i :: .ref q :: st) w := by
  obtain ⟨n, f, h1, h2, h3⟩ := hp_rz_of h
  subst h3
  exact av_zald K hd h1 h2 k
theorem hv_rl (K : av_K p s m args meth c D cl ca A cc nL own Ts) {q : Nat} {i : Int32} {x : Int64} (hd : decode cc pc = .ok (.laload, 1)) (h : hp_rl w q i = some x) (k : av_V p l e R s m args below meth c D cl A ad ca nL Q cells slots (pc + 1) L (.long x :: st) w) : av_V p l e R s m args below meth c D cl A ad ca nL Q cells slots pc L (.int i :: .ref q :: st) w := by
  obtain ⟨n, f, h1, h2, h3⟩ := hp_rl_of h
  subst h3
  exact av_lald K hd h1 h2 k
theorem hv_ra (K : av_K p s m args meth c D cl ca A cc nL own Ts) {q x : Nat} {i : Int32} (hd : decode cc pc = .ok (.aaload, 1)) (h : hp_ra w q i = some x) (k : av_V p l e R s m args below meth c D cl A ad ca nL Q cells slots (pc + 1) L (.ref x :: st) w) : av_V p l e R s m args below meth c D cl A ad ca nL Q cells slots pc L (.int i :: .ref q :: st) w := by
  obtain ⟨n, f, h1, h2, h3⟩ := hp_ra_of h
  exact av_aald K hd h1 h2 h3 k
theorem hv_wi (K : av_K p s m args meth c D cl ca A cc nL own Ts) {q : Nat} {i x : Int32} (hd : decode cc pc = .ok (.iastore, 1)) (h : hp_wi w q i x = some w') (k : av_V p l e R s m args below meth c D cl A ad ca nL Q cells slots (pc + 1) L st w') : av_V p l e R s m args below meth c D cl A ad ca nL Q cells slots pc L (.int x :: .int i :: .ref q :: st) w := by
  obtain ⟨n, f, h1, h2, h3⟩ := hp_wi_of h
  exact av_iast K hd h1 h2 h3 k
theorem hv_wz (K : av_K p s m args meth c D cl ca A cc nL own Ts) {q : Nat} {i x : Int32} (hd : decode cc pc = .ok (.bastore, 1)) (h : hp_wz w q i x = some w') (k : av_V p l e R s m args below meth c D cl A ad ca nL Q cells slots (pc + 1) L st w') : av_V p l e R s m args below meth c D cl A ad ca nL Q cells slots pc L (.int x :: .int i :: .ref q :: st) w := by
  obtain ⟨n, f, h1, h2, h3⟩ := hp_wz_of h
  exact av_zast K hd h1 h2 h3 k
theorem hv_wl (K : av_K p s m args meth c D cl ca A cc nL own Ts) {q : Nat} {i : Int32} {x : Int64} (hd : decode cc pc = .ok (.lastore, 1)) (h : hp_wl w q i x = some w') (k : av_V p l e R s m args below meth c D cl A ad ca nL Q cells slots (pc + 1) L st w') : av_V p l e R s m args below meth c D cl A ad ca nL Q cells slots pc L (.long x :: .int i :: .ref q :: st) w := by
  obtain ⟨n, f, h1, h2, h3⟩ := hp_wl_of h
  exact av_last K hd h1 h2 h3 k
/-- less is known of the locals -/
def ax_fg (L : List (Option Value)) (ks : List Nat) : List (Option Value) := ks.foldl (fun L k => L.set k none) L
theorem ax_fg_sub (ks : List Nat) : ∀ (L : List (Option Value)) (i : Nat) (v : Value), (ax_fg L ks)[i]? = some (some v) → L[i]? = some (some v) := by
  induction ks with
  | nil => intro L i v h; exact h
  | cons k ks ih =>
    intro L i v h
    have h1 := ih (L.set k none) i v h
    rw [List.getElem?_set] at h1
    by_cases hk : k = i
    · rw [if_pos hk] at h1
      split at h1 <;> cases h1
    · rw [if_neg hk] at h1
      exact h1
theorem hv_fg (ks : List Nat) (hl : ax_fg L ks = L') (k : av_V p l e R s m args below meth c D cl A ad ca nL Q cells slots pc L' st w) : av_V p l e R s m args below meth c D cl A ad ca nL Q cells slots pc L st w :=
  fun H locs ls hP hD hS hL => k H locs ls hP hD hS ⟨hL.1, hL.2.1, fun i v h => hL.2.2 i v (ax_fg_sub ks L i v (by rw [hl]; exact h))⟩
end HP
end
section
/-! names: the good words of the tables, classes, fields, links, codes (printed by a program out of the Statement) -/
def WS : List Cond := lw_tbl.filter goodWord
theorem ws_t {w : Cond} (h : w ∈ tables_1) (hg : goodWord w = true) : w ∈ WS := List.mem_filter.mpr ⟨List.mem_append_right _ h, hg⟩
theorem ws_p {w : Cond} (h : w ∈ k2_sels lw_privs) (hg : goodWord w = true) : w ∈ WS := List.mem_filter.mpr ⟨List.mem_append_left _ h, hg⟩
theorem ws_g : GoodIn WS WS := fun w h => ⟨h, good_of_word (List.mem_filter.mp h).2⟩
theorem gV {own C : String} {idx : Nat} {y : MethodName} {cw : Cond} (h1 : Cond.methodLink own idx y ∈ WS) (h2 : Cond.instanceMethod y ∈ WS) (h3 : Cond.selects C y y ∈ WS) (h4 : Cond.initialized C ∈ WS) (h5 : cw ∈ WS) : GoodIn WS (wsV own idx C y (cw :: WS)) := by
  intro w hw
  refine ws_g w ?_
  rcases List.mem_append.mp hw with h | h
  · simp only [List.mem_cons, List.not_mem_nil, or_false] at h
    rcases h with h | h | h | h <;> subst h <;> assumption
  · rcases List.mem_cons.mp h with h | h
    · subst h; exact h5
    · exact h
theorem gS {own : String} {idx : Nat} {y : MethodName} {cw : Cond} (h1 : Cond.methodLink own idx y ∈ WS) (h2 : Cond.static y ∈ WS) (h3 : Cond.initialized own ∈ WS) (h5 : cw ∈ WS) : GoodIn WS (wsS own idx y (cw :: WS)) := by
  intro w hw
  refine ws_g w ?_
  rcases List.mem_append.mp hw with h | h
  · simp only [List.mem_cons, List.not_mem_nil, or_false] at h
    rcases h with h | h | h <;> subst h <;> assumption
  · rcases List.mem_cons.mp h with h | h
    · subst h; exact h5
    · exact h
theorem gSU {own : String} {idx : Nat} {y : MethodName} {cw : Cond} (h1 : Cond.methodLink own idx y ∈ WS) (h2 : Cond.static y ∈ WS) (h3 : Cond.initialized y.cls ∈ WS) (h5 : cw ∈ WS) : GoodIn WS (va_wsS own idx y (cw :: WS)) := by
  intro w hw
  refine ws_g w ?_
  rcases List.mem_append.mp hw with h | h
  · simp only [List.mem_cons, List.not_mem_nil, or_false] at h
    rcases h with h | h | h <;> subst h <;> assumption
  · rcases List.mem_cons.mp h with h | h
    · subst h; exact h5
    · exact h
def R_D : String := "FaultTreeDesk$Diagram"
def T_D : u_T := fun k => match k with
  | 0 => ("FaultTreeDesk$Diagram", "cells", "[I", true)
  | 1 => ("FaultTreeDesk$Diagram", "pairs", "[I", true)
  | _ => ("FaultTreeDesk$Diagram", "count", "I", false)
def tq_D : Nat → FieldType := fun k => match k with
  | 0 => .array .int
  | 1 => .array .int
  | _ => .int
theorem n_D : ∀ a, a < 3 → ∀ b, b < 3 → a ≠ b → (T_D a).2.1 ≠ (T_D b).2.1 := by decide +kernel
theorem t_D_ok : ∀ k, k < 3 → parseFieldDescriptor (T_D k).2.2.1 = some (tq_D k) := by decide +kernel
theorem la_D_0 : u_lay R_D T_D 0 ∈ WS := ws_t (List.mem_of_getElem? (i := 127) (by decide +kernel)) (by decide +kernel)
theorem la_D_1 : u_lay R_D T_D 1 ∈ WS := ws_t (List.mem_of_getElem? (i := 129) (by decide +kernel)) (by decide +kernel)
theorem la_D_2 : u_lay R_D T_D 2 ∈ WS := ws_t (List.mem_of_getElem? (i := 131) (by decide +kernel)) (by decide +kernel)
theorem la_D : ∀ w ∈ u_ws R_D T_D 3, w ∈ WS := by
  intro w h
  obtain ⟨k, hk, rfl⟩ := List.mem_map.mp h
  have hk := List.mem_range.mp hk
  match k, hk with
  | 0, _ => exact la_D_0
  | 1, _ => exact la_D_1
  | 2, _ => exact la_D_2
  | k + 3, h => exact absurd h (by omega)
def R_E : String := "FaultTreeDesk$Events"
def T_E : u_T := fun k => match k with
  | 0 => ("FaultTreeDesk$Events", "chances", "[I", true)
  | 1 => ("FaultTreeDesk$Events", "holds", "[I", true)
  | _ => ("FaultTreeDesk$Events", "count", "I", false)
def tq_E : Nat → FieldType := fun k => match k with
  | 0 => .array .int
  | 1 => .array .int
  | _ => .int
theorem n_E : ∀ a, a < 3 → ∀ b, b < 3 → a ≠ b → (T_E a).2.1 ≠ (T_E b).2.1 := by decide +kernel
theorem t_E_ok : ∀ k, k < 3 → parseFieldDescriptor (T_E k).2.2.1 = some (tq_E k) := by decide +kernel
theorem la_E_0 : u_lay R_E T_E 0 ∈ WS := ws_t (List.mem_of_getElem? (i := 44) (by decide +kernel)) (by decide +kernel)
theorem la_E_1 : u_lay R_E T_E 1 ∈ WS := ws_t (List.mem_of_getElem? (i := 46) (by decide +kernel)) (by decide +kernel)
theorem la_E_2 : u_lay R_E T_E 2 ∈ WS := ws_t (List.mem_of_getElem? (i := 48) (by decide +kernel)) (by decide +kernel)
theorem la_E : ∀ w ∈ u_ws R_E T_E 3, w ∈ WS := by
  intro w h
  obtain ⟨k, hk, rfl⟩ := List.mem_map.mp h
  have hk := List.mem_range.mp hk
  match k, hk with
  | 0, _ => exact la_E_0
  | 1, _ => exact la_E_1
  | 2, _ => exact la_E_2
  | k + 3, h => exact absurd h (by omega)
def R_G : String := "FaultTreeDesk$Gates"
def T_G : u_T := fun k => match k with
  | 0 => ("FaultTreeDesk$Gates", "kinds", "[I", true)
  | 1 => ("FaultTreeDesk$Gates", "votes", "[I", true)
  | 2 => ("FaultTreeDesk$Gates", "children", "[I", true)
  | 3 => ("FaultTreeDesk$Gates", "below", "[I", true)
  | _ => ("FaultTreeDesk$Gates", "count", "I", false)
def tq_G : Nat → FieldType := fun k => match k with
  | 0 => .array .int
  | 1 => .array .int
  | 2 => .array .int
  | 3 => .array .int
  | _ => .int
theorem n_G : ∀ a, a < 5 → ∀ b, b < 5 → a ≠ b → (T_G a).2.1 ≠ (T_G b).2.1 := by decide +kernel
theorem t_G_ok : ∀ k, k < 5 → parseFieldDescriptor (T_G k).2.2.1 = some (tq_G k) := by decide +kernel
theorem la_G_0 : u_lay R_G T_G 0 ∈ WS := ws_t (List.mem_of_getElem? (i := 69) (by decide +kernel)) (by decide +kernel)
theorem la_G_1 : u_lay R_G T_G 1 ∈ WS := ws_t (List.mem_of_getElem? (i := 71) (by decide +kernel)) (by decide +kernel)
theorem la_G_2 : u_lay R_G T_G 2 ∈ WS := ws_t (List.mem_of_getElem? (i := 73) (by decide +kernel)) (by decide +kernel)
theorem la_G_3 : u_lay R_G T_G 3 ∈ WS := ws_t (List.mem_of_getElem? (i := 75) (by decide +kernel)) (by decide +kernel)
theorem la_G_4 : u_lay R_G T_G 4 ∈ WS := ws_t (List.mem_of_getElem? (i := 77) (by decide +kernel)) (by decide +kernel)
theorem la_G : ∀ w ∈ u_ws R_G T_G 5, w ∈ WS := by
  intro w h
  obtain ⟨k, hk, rfl⟩ := List.mem_map.mp h
  have hk := List.mem_range.mp hk
  match k, hk with
  | 0, _ => exact la_G_0
  | 1, _ => exact la_G_1
  | 2, _ => exact la_G_2
  | 3, _ => exact la_G_3
  | 4, _ => exact la_G_4
  | k + 5, h => exact absurd h (by omega)
def R_O : String := "FaultTreeDesk$Odds"
def T_O : u_T := fun k => match k with
  | _ => ("FaultTreeDesk$Odds", "cells", "[J", true)
def tq_O : Nat → FieldType := fun k => match k with
  | _ => .array .long
theorem n_O : ∀ a, a < 1 → ∀ b, b < 1 → a ≠ b → (T_O a).2.1 ≠ (T_O b).2.1 := by decide +kernel
theorem t_O_ok : ∀ k, k < 1 → parseFieldDescriptor (T_O k).2.2.1 = some (tq_O k) := by decide +kernel
theorem la_O_0 : u_lay R_O T_O 0 ∈ WS := ws_t (List.mem_of_getElem? (i := 115) (by decide +kernel)) (by decide +kernel)
theorem la_O : ∀ w ∈ u_ws R_O T_O 1, w ∈ WS := by
  intro w h
  obtain ⟨k, hk, rfl⟩ := List.mem_map.mp h
  have hk := List.mem_range.mp hk
  match k, hk with
  | 0, _ => exact la_O_0
  | k + 1, h => exact absurd h (by omega)
def R_X : String := "FaultTreeDesk$Terms"
def T_X : u_T := fun k => match k with
  | 0 => ("FaultTreeDesk$Terms", "keys", "[I", true)
  | 1 => ("FaultTreeDesk$Terms", "levels", "[[J", true)
  | 2 => ("FaultTreeDesk$Terms", "words", "I", false)
  | 3 => ("FaultTreeDesk$Terms", "count", "I", false)
  | _ => ("FaultTreeDesk$Terms", "tooMany", "Z", false)
def tq_X : Nat → FieldType := fun k => match k with
  | 0 => .array .int
  | 1 => .array (.array .long)
  | 2 => .int
  | 3 => .int
  | _ => .boolean
theorem n_X : ∀ a, a < 5 → ∀ b, b < 5 → a ≠ b → (T_X a).2.1 ≠ (T_X b).2.1 := by decide +kernel
theorem t_X_ok : ∀ k, k < 5 → parseFieldDescriptor (T_X k).2.2.1 = some (tq_X k) := by decide +kernel
theorem la_X_0 : u_lay R_X T_X 0 ∈ WS := ws_t (List.mem_of_getElem? (i := 148) (by decide +kernel)) (by decide +kernel)
theorem la_X_1 : u_lay R_X T_X 1 ∈ WS := ws_t (List.mem_of_getElem? (i := 150) (by decide +kernel)) (by decide +kernel)
theorem la_X_2 : u_lay R_X T_X 2 ∈ WS := ws_t (List.mem_of_getElem? (i := 152) (by decide +kernel)) (by decide +kernel)
theorem la_X_3 : u_lay R_X T_X 3 ∈ WS := ws_t (List.mem_of_getElem? (i := 154) (by decide +kernel)) (by decide +kernel)
theorem la_X_4 : u_lay R_X T_X 4 ∈ WS := ws_t (List.mem_of_getElem? (i := 156) (by decide +kernel)) (by decide +kernel)
theorem la_X : ∀ w ∈ u_ws R_X T_X 5, w ∈ WS := by
  intro w h
  obtain ⟨k, hk, rfl⟩ := List.mem_map.mp h
  have hk := List.mem_range.mp hk
  match k, hk with
  | 0, _ => exact la_X_0
  | 1, _ => exact la_X_1
  | 2, _ => exact la_X_2
  | 3, _ => exact la_X_3
  | 4, _ => exact la_X_4
  | k + 5, h => exact absurd h (by omega)
def R_T : String := "FaultTreeDesk$Truth"
def T_T : u_T := fun k => match k with
  | 0 => ("FaultTreeDesk$Truth", "rows", "[[J", true)
  | 1 => ("FaultTreeDesk$Truth", "inputs", "[I", true)
  | 2 => ("FaultTreeDesk$Truth", "settings", "I", false)
  | 3 => ("FaultTreeDesk$Truth", "words", "I", false)
  | _ => ("FaultTreeDesk$Truth", "topCode", "I", false)
def tq_T : Nat → FieldType := fun k => match k with
  | 0 => .array (.array .long)
  | 1 => .array .int
  | 2 => .int
  | 3 => .int
  | _ => .int
theorem n_T : ∀ a, a < 5 → ∀ b, b < 5 → a ≠ b → (T_T a).2.1 ≠ (T_T b).2.1 := by decide +kernel
theorem t_T_ok : ∀ k, k < 5 → parseFieldDescriptor (T_T k).2.2.1 = some (tq_T k) := by decide +kernel
theorem la_T_0 : u_lay R_T T_T 0 ∈ WS := ws_t (List.mem_of_getElem? (i := 96) (by decide +kernel)) (by decide +kernel)
theorem la_T_1 : u_lay R_T T_T 1 ∈ WS := ws_t (List.mem_of_getElem? (i := 98) (by decide +kernel)) (by decide +kernel)
theorem la_T_2 : u_lay R_T T_T 2 ∈ WS := ws_t (List.mem_of_getElem? (i := 100) (by decide +kernel)) (by decide +kernel)
theorem la_T_3 : u_lay R_T T_T 3 ∈ WS := ws_t (List.mem_of_getElem? (i := 102) (by decide +kernel)) (by decide +kernel)
theorem la_T_4 : u_lay R_T T_T 4 ∈ WS := ws_t (List.mem_of_getElem? (i := 104) (by decide +kernel)) (by decide +kernel)
theorem la_T : ∀ w ∈ u_ws R_T T_T 5, w ∈ WS := by
  intro w h
  obtain ⟨k, hk, rfl⟩ := List.mem_map.mp h
  have hk := List.mem_range.mp hk
  match k, hk with
  | 0, _ => exact la_T_0
  | 1, _ => exact la_T_1
  | 2, _ => exact la_T_2
  | 3, _ => exact la_T_3
  | 4, _ => exact la_T_4
  | k + 5, h => exact absurd h (by omega)
def R_F : String := "FaultTreeDesk"
def T_F : u_T := fun k => match k with
  | 0 => ("FaultTreeDesk", "events", "LFaultTreeDesk$Events;", true)
  | 1 => ("FaultTreeDesk", "gates", "LFaultTreeDesk$Gates;", true)
  | 2 => ("FaultTreeDesk", "truth", "LFaultTreeDesk$Truth;", true)
  | 3 => ("FaultTreeDesk", "sums", "LFaultTreeDesk$Odds;", true)
  | 4 => ("FaultTreeDesk", "diagram", "LFaultTreeDesk$Diagram;", true)
  | 5 => ("FaultTreeDesk", "terms", "LFaultTreeDesk$Terms;", true)
  | 6 => ("FaultTreeDesk", "topGate", "I", false)
  | 7 => ("FaultTreeDesk", "truthFresh", "Z", false)
  | _ => ("FaultTreeDesk", "termsFresh", "Z", false)
def tq_F : Nat → FieldType := fun k => match k with
  | 0 => .object "FaultTreeDesk$Events"
  | 1 => .object "FaultTreeDesk$Gates"
  | 2 => .object "FaultTreeDesk$Truth"
  | 3 => .object "FaultTreeDesk$Odds"
  | 4 => .object "FaultTreeDesk$Diagram"
  | 5 => .object "FaultTreeDesk$Terms"
  | 6 => .int
  | 7 => .boolean
  | _ => .boolean
theorem n_F : ∀ a, a < 9 → ∀ b, b < 9 → a ≠ b → (T_F a).2.1 ≠ (T_F b).2.1 := by decide +kernel
theorem t_F_ok : ∀ k, k < 9 → parseFieldDescriptor (T_F k).2.2.1 = some (tq_F k) := by decide +kernel
theorem la_F_0 : u_lay R_F T_F 0 ∈ WS := ws_t (List.mem_of_getElem? (i := 168) (by decide +kernel)) (by decide +kernel)
theorem la_F_1 : u_lay R_F T_F 1 ∈ WS := ws_t (List.mem_of_getElem? (i := 170) (by decide +kernel)) (by decide +kernel)
theorem la_F_2 : u_lay R_F T_F 2 ∈ WS := ws_t (List.mem_of_getElem? (i := 172) (by decide +kernel)) (by decide +kernel)
theorem la_F_3 : u_lay R_F T_F 3 ∈ WS := ws_t (List.mem_of_getElem? (i := 174) (by decide +kernel)) (by decide +kernel)
theorem la_F_4 : u_lay R_F T_F 4 ∈ WS := ws_t (List.mem_of_getElem? (i := 176) (by decide +kernel)) (by decide +kernel)
theorem la_F_5 : u_lay R_F T_F 5 ∈ WS := ws_t (List.mem_of_getElem? (i := 178) (by decide +kernel)) (by decide +kernel)
theorem la_F_6 : u_lay R_F T_F 6 ∈ WS := ws_t (List.mem_of_getElem? (i := 180) (by decide +kernel)) (by decide +kernel)
theorem la_F_7 : u_lay R_F T_F 7 ∈ WS := ws_t (List.mem_of_getElem? (i := 182) (by decide +kernel)) (by decide +kernel)
theorem la_F_8 : u_lay R_F T_F 8 ∈ WS := ws_t (List.mem_of_getElem? (i := 184) (by decide +kernel)) (by decide +kernel)
theorem la_F : ∀ w ∈ u_ws R_F T_F 9, w ∈ WS := by
  intro w h
  obtain ⟨k, hk, rfl⟩ := List.mem_map.mp h
  have hk := List.mem_range.mp hk
  match k, hk with
  | 0, _ => exact la_F_0
  | 1, _ => exact la_F_1
  | 2, _ => exact la_F_2
  | 3, _ => exact la_F_3
  | 4, _ => exact la_F_4
  | 5, _ => exact la_F_5
  | 6, _ => exact la_F_6
  | 7, _ => exact la_F_7
  | 8, _ => exact la_F_8
  | k + 9, h => exact absurd h (by omega)
def R_M : String := "FaultTreeDeskModel"
def T_M : u_T := fun k => match k with
  | 0 => ("FaultTreeDeskModel", "code", "I", false)
  | 1 => ("FaultTreeDeskModel", "events", "I", false)
  | 2 => ("FaultTreeDeskModel", "chance", "[I", true)
  | 3 => ("FaultTreeDeskModel", "held", "[I", true)
  | 4 => ("FaultTreeDeskModel", "gates", "I", false)
  | 5 => ("FaultTreeDeskModel", "kinds", "[I", true)
  | 6 => ("FaultTreeDeskModel", "least", "[I", true)
  | 7 => ("FaultTreeDeskModel", "counts", "[I", true)
  | 8 => ("FaultTreeDeskModel", "kids", "[I", true)
  | 9 => ("FaultTreeDeskModel", "top", "I", false)
  | 10 => ("FaultTreeDeskModel", "below", "[Z", true)
  | 11 => ("FaultTreeDeskModel", "ready", "[Z", true)
  | 12 => ("FaultTreeDeskModel", "order", "[I", true)
  | 13 => ("FaultTreeDeskModel", "on", "[Z", true)
  | 14 => ("FaultTreeDeskModel", "truth", "[Z", true)
  | 15 => ("FaultTreeDeskModel", "causes", "[J", true)
  | 16 => ("FaultTreeDeskModel", "many", "I", false)
  | 17 => ("FaultTreeDeskModel", "ons", "[I", true)
  | _ => ("FaultTreeDeskModel", "offs", "[I", true)
def tq_M : Nat → FieldType := fun k => match k with
  | 0 => .int
  | 1 => .int
  | 2 => .array .int
  | 3 => .array .int
  | 4 => .int
  | 5 => .array .int
  | 6 => .array .int
  | 7 => .array .int
  | 8 => .array .int
  | 9 => .int
  | 10 => .array .boolean
  | 11 => .array .boolean
  | 12 => .array .int
  | 13 => .array .boolean
  | 14 => .array .boolean
  | 15 => .array .long
  | 16 => .int
  | 17 => .array .int
  | _ => .array .int
theorem n_M : ∀ a, a < 19 → ∀ b, b < 19 → a ≠ b → (T_M a).2.1 ≠ (T_M b).2.1 := by decide +kernel
theorem t_M_ok : ∀ k, k < 19 → parseFieldDescriptor (T_M k).2.2.1 = some (tq_M k) := by decide +kernel
theorem la_M_0 : u_lay R_M T_M 0 ∈ WS := ws_t (List.mem_of_getElem? (i := 653) (by decide +kernel)) (by decide +kernel)
theorem la_M_1 : u_lay R_M T_M 1 ∈ WS := ws_t (List.mem_of_getElem? (i := 655) (by decide +kernel)) (by decide +kernel)
theorem la_M_2 : u_lay R_M T_M 2 ∈ WS := ws_t (List.mem_of_getElem? (i := 657) (by decide +kernel)) (by decide +kernel)
theorem la_M_3 : u_lay R_M T_M 3 ∈ WS := ws_t (List.mem_of_getElem? (i := 659) (by decide +kernel)) (by decide +kernel)
theorem la_M_4 : u_lay R_M T_M 4 ∈ WS := ws_t (List.mem_of_getElem? (i := 661) (by decide +kernel)) (by decide +kernel)
theorem la_M_5 : u_lay R_M T_M 5 ∈ WS := ws_t (List.mem_of_getElem? (i := 663) (by decide +kernel)) (by decide +kernel)
theorem la_M_6 : u_lay R_M T_M 6 ∈ WS := ws_t (List.mem_of_getElem? (i := 665) (by decide +kernel)) (by decide +kernel)
theorem la_M_7 : u_lay R_M T_M 7 ∈ WS := ws_t (List.mem_of_getElem? (i := 667) (by decide +kernel)) (by decide +kernel)
theorem la_M_8 : u_lay R_M T_M 8 ∈ WS := ws_t (List.mem_of_getElem? (i := 669) (by decide +kernel)) (by decide +kernel)
theorem la_M_9 : u_lay R_M T_M 9 ∈ WS := ws_t (List.mem_of_getElem? (i := 671) (by decide +kernel)) (by decide +kernel)
theorem la_M_10 : u_lay R_M T_M 10 ∈ WS := ws_t (List.mem_of_getElem? (i := 673) (by decide +kernel)) (by decide +kernel)
theorem la_M_11 : u_lay R_M T_M 11 ∈ WS := ws_t (List.mem_of_getElem? (i := 675) (by decide +kernel)) (by decide +kernel)
theorem la_M_12 : u_lay R_M T_M 12 ∈ WS := ws_t (List.mem_of_getElem? (i := 677) (by decide +kernel)) (by decide +kernel)
theorem la_M_13 : u_lay R_M T_M 13 ∈ WS := ws_t (List.mem_of_getElem? (i := 679) (by decide +kernel)) (by decide +kernel)
theorem la_M_14 : u_lay R_M T_M 14 ∈ WS := ws_t (List.mem_of_getElem? (i := 681) (by decide +kernel)) (by decide +kernel)
theorem la_M_15 : u_lay R_M T_M 15 ∈ WS := ws_t (List.mem_of_getElem? (i := 683) (by decide +kernel)) (by decide +kernel)
theorem la_M_16 : u_lay R_M T_M 16 ∈ WS := ws_t (List.mem_of_getElem? (i := 685) (by decide +kernel)) (by decide +kernel)
theorem la_M_17 : u_lay R_M T_M 17 ∈ WS := ws_t (List.mem_of_getElem? (i := 687) (by decide +kernel)) (by decide +kernel)
theorem la_M_18 : u_lay R_M T_M 18 ∈ WS := ws_t (List.mem_of_getElem? (i := 689) (by decide +kernel)) (by decide +kernel)
theorem la_M : ∀ w ∈ u_ws R_M T_M 19, w ∈ WS := by
  intro w h
  obtain ⟨k, hk, rfl⟩ := List.mem_map.mp h
  have hk := List.mem_range.mp hk
  match k, hk with
  | 0, _ => exact la_M_0
  | 1, _ => exact la_M_1
  | 2, _ => exact la_M_2
  | 3, _ => exact la_M_3
  | 4, _ => exact la_M_4
  | 5, _ => exact la_M_5
  | 6, _ => exact la_M_6
  | 7, _ => exact la_M_7
  | 8, _ => exact la_M_8
  | 9, _ => exact la_M_9
  | 10, _ => exact la_M_10
  | 11, _ => exact la_M_11
  | 12, _ => exact la_M_12
  | 13, _ => exact la_M_13
  | 14, _ => exact la_M_14
  | 15, _ => exact la_M_15
  | 16, _ => exact la_M_16
  | 17, _ => exact la_M_17
  | 18, _ => exact la_M_18
  | k + 19, h => exact absurd h (by omega)
def cl8 : List vw_C := [(R_D, T_D, 3), (R_E, T_E, 3), (R_G, T_G, 5), (R_O, T_O, 1), (R_X, T_X, 5), (R_T, T_T, 5), (R_F, T_F, 9), (R_M, T_M, 19)]
def tabON (j : Nat) : Int64 := match j with
  | 0 => -6148914691236517206
  | 1 => -3689348814741910324
  | 2 => -1085102592571150096
  | 3 => -71777214294589696
  | 4 => -281470681808896
  | _ => -4294967296
def NS : List Cond := [.methodLinkNest "FaultTreeDesk" 11 ⟨"FaultTreeDesk$Events", "<init>", "()V"⟩ "FaultTreeDesk", .fieldLinkNest "FaultTreeDesk$Odds" 27 "FaultTreeDesk$Events" "chances" "[I" "FaultTreeDesk", .fieldLinkNest "FaultTreeDesk" 86 "FaultTreeDesk$Events" "chances" "[I" "FaultTreeDesk", .fieldLinkNest "FaultTreeDesk$Truth" 41 "FaultTreeDesk$Events" "holds" "[I" "FaultTreeDesk", .fieldLinkNest "FaultTreeDesk" 95 "FaultTreeDesk$Events" "holds" "[I" "FaultTreeDesk", .fieldLinkNest "FaultTreeDesk$Odds" 15 "FaultTreeDesk$Events" "count" "I" "FaultTreeDesk", .fieldLinkNest "FaultTreeDesk$Truth" 30 "FaultTreeDesk$Events" "count" "I" "FaultTreeDesk", .fieldLinkNest "FaultTreeDesk" 66 "FaultTreeDesk$Events" "count" "I" "FaultTreeDesk", .methodLinkNest "FaultTreeDesk" 18 ⟨"FaultTreeDesk$Gates", "<init>", "()V"⟩ "FaultTreeDesk", .fieldLinkNest "FaultTreeDesk$Truth" 78 "FaultTreeDesk$Gates" "kinds" "[I" "FaultTreeDesk", .fieldLinkNest "FaultTreeDesk$Truth" 89 "FaultTreeDesk$Gates" "votes" "[I" "FaultTreeDesk", .fieldLinkNest "FaultTreeDesk$Truth" 72 "FaultTreeDesk$Gates" "children" "[I" "FaultTreeDesk", .fieldLinkNest "FaultTreeDesk$Truth" 65 "FaultTreeDesk$Gates" "below" "[I" "FaultTreeDesk", .fieldLinkNest "FaultTreeDesk$Truth" 64 "FaultTreeDesk$Gates" "count" "I" "FaultTreeDesk", .fieldLinkNest "FaultTreeDesk" 102 "FaultTreeDesk$Gates" "count" "I" "FaultTreeDesk", .methodLinkNest "FaultTreeDesk" 25 ⟨"FaultTreeDesk$Truth", "<init>", "()V"⟩ "FaultTreeDesk", .fieldLinkNest "FaultTreeDesk$Terms" 34 "FaultTreeDesk$Truth" "rows" "[[J" "FaultTreeDesk", .fieldLinkNest "FaultTreeDesk$Terms" 31 "FaultTreeDesk$Truth" "words" "I" "FaultTreeDesk", .fieldLinkNest "FaultTreeDesk$Terms" 37 "FaultTreeDesk$Truth" "topCode" "I" "FaultTreeDesk", .methodLinkNest "FaultTreeDesk" 32 ⟨"FaultTreeDesk$Odds", "<init>", "()V"⟩ "FaultTreeDesk", .methodLinkNest "FaultTreeDesk" 39 ⟨"FaultTreeDesk$Diagram", "<init>", "()V"⟩ "FaultTreeDesk", .methodLinkNest "FaultTreeDesk" 46 ⟨"FaultTreeDesk$Terms", "<init>", "()V"⟩ "FaultTreeDesk", .fieldLinkNest "FaultTreeDesk" 177 "FaultTreeDesk$Terms" "count" "I" "FaultTreeDesk", .fieldLinkNest "FaultTreeDesk" 208 "FaultTreeDesk$Terms" "tooMany" "Z" "FaultTreeDesk", .fieldLinkNest "FaultTreeDesk$Truth" 54 "FaultTreeDesk" "ON_IN_WORD" "[J" "FaultTreeDesk", .fieldLinkNest "FaultTreeDesk$Terms" 65 "FaultTreeDesk" "ON_IN_WORD" "[J" "FaultTreeDesk"]
theorem NS_in : ∀ w ∈ NS, w ∈ tables_1 := by decide +kernel
theorem fk_E_9 : Cond.fieldLink R_E 9 (T_E 0).1 (T_E 0).2.1 (T_E 0).2.2.1 ∈ WS := ws_t (List.mem_of_getElem? (i := 34) (by decide +kernel)) (by decide +kernel)
theorem fl_E_9 : av_F R_E WS cl8 9 1 0 := ⟨R_E, T_E, 3, rfl, Nat.le_of_ble_eq_true rfl, la_E, fk_E_9⟩
theorem fk_E_15 : Cond.fieldLink R_E 15 (T_E 1).1 (T_E 1).2.1 (T_E 1).2.2.1 ∈ WS := ws_t (List.mem_of_getElem? (i := 37) (by decide +kernel)) (by decide +kernel)
theorem fl_E_15 : av_F R_E WS cl8 15 1 1 := ⟨R_E, T_E, 3, rfl, Nat.le_of_ble_eq_true rfl, la_E, fk_E_15⟩
theorem fk_E_18 : Cond.fieldLink R_E 18 (T_E 2).1 (T_E 2).2.1 (T_E 2).2.2.1 ∈ WS := ws_t (List.mem_of_getElem? (i := 40) (by decide +kernel)) (by decide +kernel)
theorem fl_E_18 : av_F R_E WS cl8 18 1 2 := ⟨R_E, T_E, 3, rfl, Nat.le_of_ble_eq_true rfl, la_E, fk_E_18⟩
theorem fp_E_18 : av_FP R_E WS cl8 18 1 2 (tq_E 2) := ⟨R_E, T_E, 3, tq_E, rfl, Nat.le_of_ble_eq_true rfl, la_E, fk_E_18, t_E_ok, n_E, rfl, t_E_ok 2 (Nat.le_of_ble_eq_true rfl)⟩
theorem fk_G_9 : Cond.fieldLink R_G 9 (T_G 0).1 (T_G 0).2.1 (T_G 0).2.2.1 ∈ WS := ws_t (List.mem_of_getElem? (i := 58) (by decide +kernel)) (by decide +kernel)
theorem fl_G_9 : av_F R_G WS cl8 9 2 0 := ⟨R_G, T_G, 5, rfl, Nat.le_of_ble_eq_true rfl, la_G, fk_G_9⟩
theorem fk_G_15 : Cond.fieldLink R_G 15 (T_G 1).1 (T_G 1).2.1 (T_G 1).2.2.1 ∈ WS := ws_t (List.mem_of_getElem? (i := 60) (by decide +kernel)) (by decide +kernel)
theorem fl_G_15 : av_F R_G WS cl8 15 2 1 := ⟨R_G, T_G, 5, rfl, Nat.le_of_ble_eq_true rfl, la_G, fk_G_15⟩
theorem fk_G_18 : Cond.fieldLink R_G 18 (T_G 2).1 (T_G 2).2.1 (T_G 2).2.2.1 ∈ WS := ws_t (List.mem_of_getElem? (i := 62) (by decide +kernel)) (by decide +kernel)
theorem fl_G_18 : av_F R_G WS cl8 18 2 2 := ⟨R_G, T_G, 5, rfl, Nat.le_of_ble_eq_true rfl, la_G, fk_G_18⟩
theorem fk_G_21 : Cond.fieldLink R_G 21 (T_G 3).1 (T_G 3).2.1 (T_G 3).2.2.1 ∈ WS := ws_t (List.mem_of_getElem? (i := 64) (by decide +kernel)) (by decide +kernel)
theorem fl_G_21 : av_F R_G WS cl8 21 2 3 := ⟨R_G, T_G, 5, rfl, Nat.le_of_ble_eq_true rfl, la_G, fk_G_21⟩
theorem fk_G_24 : Cond.fieldLink R_G 24 (T_G 4).1 (T_G 4).2.1 (T_G 4).2.2.1 ∈ WS := ws_t (List.mem_of_getElem? (i := 66) (by decide +kernel)) (by decide +kernel)
theorem fl_G_24 : av_F R_G WS cl8 24 2 4 := ⟨R_G, T_G, 5, rfl, Nat.le_of_ble_eq_true rfl, la_G, fk_G_24⟩
theorem fp_G_24 : av_FP R_G WS cl8 24 2 4 (tq_G 4) := ⟨R_G, T_G, 5, tq_G, rfl, Nat.le_of_ble_eq_true rfl, la_G, fk_G_24, t_G_ok, n_G, rfl, t_G_ok 4 (Nat.le_of_ble_eq_true rfl)⟩
theorem fk_T_11 : Cond.fieldLink R_T 11 (T_T 0).1 (T_T 0).2.1 (T_T 0).2.2.1 ∈ WS := ws_t (List.mem_of_getElem? (i := 88) (by decide +kernel)) (by decide +kernel)
theorem fl_T_11 : av_F R_T WS cl8 11 5 0 := ⟨R_T, T_T, 5, rfl, Nat.le_of_ble_eq_true rfl, la_T, fk_T_11⟩
theorem fk_T_16 : Cond.fieldLink R_T 16 (T_T 1).1 (T_T 1).2.1 (T_T 1).2.2.1 ∈ WS := ws_t (List.mem_of_getElem? (i := 90) (by decide +kernel)) (by decide +kernel)
theorem fl_T_16 : av_F R_T WS cl8 16 5 1 := ⟨R_T, T_T, 5, rfl, Nat.le_of_ble_eq_true rfl, la_T, fk_T_16⟩
theorem fk_T_20 : Cond.fieldLink R_T 20 (T_T 2).1 (T_T 2).2.1 (T_T 2).2.2.1 ∈ WS := ws_t (List.mem_of_getElem? (i := 91) (by decide +kernel)) (by decide +kernel)
theorem fl_T_20 : av_F R_T WS cl8 20 5 2 := ⟨R_T, T_T, 5, rfl, Nat.le_of_ble_eq_true rfl, la_T, fk_T_20⟩
theorem fp_T_20 : av_FP R_T WS cl8 20 5 2 (tq_T 2) := ⟨R_T, T_T, 5, tq_T, rfl, Nat.le_of_ble_eq_true rfl, la_T, fk_T_20, t_T_ok, n_T, rfl, t_T_ok 2 (Nat.le_of_ble_eq_true rfl)⟩
theorem fk_T_24 : Cond.fieldLink R_T 24 (T_T 3).1 (T_T 3).2.1 (T_T 3).2.2.1 ∈ WS := ws_t (List.mem_of_getElem? (i := 92) (by decide +kernel)) (by decide +kernel)
theorem fl_T_24 : av_F R_T WS cl8 24 5 3 := ⟨R_T, T_T, 5, rfl, Nat.le_of_ble_eq_true rfl, la_T, fk_T_24⟩
theorem fp_T_24 : av_FP R_T WS cl8 24 5 3 (tq_T 3) := ⟨R_T, T_T, 5, tq_T, rfl, Nat.le_of_ble_eq_true rfl, la_T, fk_T_24, t_T_ok, n_T, rfl, t_T_ok 3 (Nat.le_of_ble_eq_true rfl)⟩
theorem fk_T_27 : Cond.fieldLink R_T 27 (T_T 4).1 (T_T 4).2.1 (T_T 4).2.2.1 ∈ WS := ws_t (List.mem_of_getElem? (i := 94) (by decide +kernel)) (by decide +kernel)
theorem fl_T_27 : av_F R_T WS cl8 27 5 4 := ⟨R_T, T_T, 5, rfl, Nat.le_of_ble_eq_true rfl, la_T, fk_T_27⟩
theorem fp_T_27 : av_FP R_T WS cl8 27 5 4 (tq_T 4) := ⟨R_T, T_T, 5, tq_T, rfl, Nat.le_of_ble_eq_true rfl, la_T, fk_T_27, t_T_ok, n_T, rfl, t_T_ok 4 (Nat.le_of_ble_eq_true rfl)⟩
theorem fk_O_9 : Cond.fieldLink R_O 9 (T_O 0).1 (T_O 0).2.1 (T_O 0).2.2.1 ∈ WS := ws_t (List.mem_of_getElem? (i := 114) (by decide +kernel)) (by decide +kernel)
theorem fl_O_9 : av_F R_O WS cl8 9 3 0 := ⟨R_O, T_O, 1, rfl, Nat.le_of_ble_eq_true rfl, la_O, fk_O_9⟩
theorem fk_D_9 : Cond.fieldLink R_D 9 (T_D 0).1 (T_D 0).2.1 (T_D 0).2.2.1 ∈ WS := ws_t (List.mem_of_getElem? (i := 124) (by decide +kernel)) (by decide +kernel)
theorem fl_D_9 : av_F R_D WS cl8 9 0 0 := ⟨R_D, T_D, 3, rfl, Nat.le_of_ble_eq_true rfl, la_D, fk_D_9⟩
theorem fk_D_15 : Cond.fieldLink R_D 15 (T_D 1).1 (T_D 1).2.1 (T_D 1).2.2.1 ∈ WS := ws_t (List.mem_of_getElem? (i := 125) (by decide +kernel)) (by decide +kernel)
theorem fl_D_15 : av_F R_D WS cl8 15 0 1 := ⟨R_D, T_D, 3, rfl, Nat.le_of_ble_eq_true rfl, la_D, fk_D_15⟩
theorem fk_D_18 : Cond.fieldLink R_D 18 (T_D 2).1 (T_D 2).2.1 (T_D 2).2.2.1 ∈ WS := ws_t (List.mem_of_getElem? (i := 126) (by decide +kernel)) (by decide +kernel)
theorem fl_D_18 : av_F R_D WS cl8 18 0 2 := ⟨R_D, T_D, 3, rfl, Nat.le_of_ble_eq_true rfl, la_D, fk_D_18⟩
theorem fp_D_18 : av_FP R_D WS cl8 18 0 2 (tq_D 2) := ⟨R_D, T_D, 3, tq_D, rfl, Nat.le_of_ble_eq_true rfl, la_D, fk_D_18, t_D_ok, n_D, rfl, t_D_ok 2 (Nat.le_of_ble_eq_true rfl)⟩
theorem fk_X_9 : Cond.fieldLink R_X 9 (T_X 0).1 (T_X 0).2.1 (T_X 0).2.2.1 ∈ WS := ws_t (List.mem_of_getElem? (i := 141) (by decide +kernel)) (by decide +kernel)
theorem fl_X_9 : av_F R_X WS cl8 9 4 0 := ⟨R_X, T_X, 5, rfl, Nat.le_of_ble_eq_true rfl, la_X, fk_X_9⟩
theorem fk_X_17 : Cond.fieldLink R_X 17 (T_X 1).1 (T_X 1).2.1 (T_X 1).2.2.1 ∈ WS := ws_t (List.mem_of_getElem? (i := 142) (by decide +kernel)) (by decide +kernel)
theorem fl_X_17 : av_F R_X WS cl8 17 4 1 := ⟨R_X, T_X, 5, rfl, Nat.le_of_ble_eq_true rfl, la_X, fk_X_17⟩
theorem fk_X_20 : Cond.fieldLink R_X 20 (T_X 2).1 (T_X 2).2.1 (T_X 2).2.2.1 ∈ WS := ws_t (List.mem_of_getElem? (i := 143) (by decide +kernel)) (by decide +kernel)
theorem fl_X_20 : av_F R_X WS cl8 20 4 2 := ⟨R_X, T_X, 5, rfl, Nat.le_of_ble_eq_true rfl, la_X, fk_X_20⟩
theorem fp_X_20 : av_FP R_X WS cl8 20 4 2 (tq_X 2) := ⟨R_X, T_X, 5, tq_X, rfl, Nat.le_of_ble_eq_true rfl, la_X, fk_X_20, t_X_ok, n_X, rfl, t_X_ok 2 (Nat.le_of_ble_eq_true rfl)⟩
theorem fk_X_24 : Cond.fieldLink R_X 24 (T_X 3).1 (T_X 3).2.1 (T_X 3).2.2.1 ∈ WS := ws_t (List.mem_of_getElem? (i := 144) (by decide +kernel)) (by decide +kernel)
theorem fl_X_24 : av_F R_X WS cl8 24 4 3 := ⟨R_X, T_X, 5, rfl, Nat.le_of_ble_eq_true rfl, la_X, fk_X_24⟩
theorem fp_X_24 : av_FP R_X WS cl8 24 4 3 (tq_X 3) := ⟨R_X, T_X, 5, tq_X, rfl, Nat.le_of_ble_eq_true rfl, la_X, fk_X_24, t_X_ok, n_X, rfl, t_X_ok 3 (Nat.le_of_ble_eq_true rfl)⟩
theorem fk_X_27 : Cond.fieldLink R_X 27 (T_X 4).1 (T_X 4).2.1 (T_X 4).2.2.1 ∈ WS := ws_t (List.mem_of_getElem? (i := 146) (by decide +kernel)) (by decide +kernel)
theorem fl_X_27 : av_F R_X WS cl8 27 4 4 := ⟨R_X, T_X, 5, rfl, Nat.le_of_ble_eq_true rfl, la_X, fk_X_27⟩
theorem fp_X_27 : av_FP R_X WS cl8 27 4 4 (tq_X 4) := ⟨R_X, T_X, 5, tq_X, rfl, Nat.le_of_ble_eq_true rfl, la_X, fk_X_27, t_X_ok, n_X, rfl, t_X_ok 4 (Nat.le_of_ble_eq_true rfl)⟩
theorem fk_F_12 : Cond.fieldLink R_F 12 (T_F 0).1 (T_F 0).2.1 (T_F 0).2.2.1 ∈ WS := ws_t (List.mem_of_getElem? (i := 159) (by decide +kernel)) (by decide +kernel)
theorem fl_F_12 : av_F R_F WS cl8 12 6 0 := ⟨R_F, T_F, 9, rfl, Nat.le_of_ble_eq_true rfl, la_F, fk_F_12⟩
theorem fk_F_19 : Cond.fieldLink R_F 19 (T_F 1).1 (T_F 1).2.1 (T_F 1).2.2.1 ∈ WS := ws_t (List.mem_of_getElem? (i := 160) (by decide +kernel)) (by decide +kernel)
theorem fl_F_19 : av_F R_F WS cl8 19 6 1 := ⟨R_F, T_F, 9, rfl, Nat.le_of_ble_eq_true rfl, la_F, fk_F_19⟩
theorem fk_F_26 : Cond.fieldLink R_F 26 (T_F 2).1 (T_F 2).2.1 (T_F 2).2.2.1 ∈ WS := ws_t (List.mem_of_getElem? (i := 161) (by decide +kernel)) (by decide +kernel)
theorem fl_F_26 : av_F R_F WS cl8 26 6 2 := ⟨R_F, T_F, 9, rfl, Nat.le_of_ble_eq_true rfl, la_F, fk_F_26⟩
theorem fk_F_33 : Cond.fieldLink R_F 33 (T_F 3).1 (T_F 3).2.1 (T_F 3).2.2.1 ∈ WS := ws_t (List.mem_of_getElem? (i := 162) (by decide +kernel)) (by decide +kernel)
theorem fl_F_33 : av_F R_F WS cl8 33 6 3 := ⟨R_F, T_F, 9, rfl, Nat.le_of_ble_eq_true rfl, la_F, fk_F_33⟩
theorem fk_F_40 : Cond.fieldLink R_F 40 (T_F 4).1 (T_F 4).2.1 (T_F 4).2.2.1 ∈ WS := ws_t (List.mem_of_getElem? (i := 163) (by decide +kernel)) (by decide +kernel)
theorem fl_F_40 : av_F R_F WS cl8 40 6 4 := ⟨R_F, T_F, 9, rfl, Nat.le_of_ble_eq_true rfl, la_F, fk_F_40⟩
theorem fk_F_47 : Cond.fieldLink R_F 47 (T_F 5).1 (T_F 5).2.1 (T_F 5).2.2.1 ∈ WS := ws_t (List.mem_of_getElem? (i := 164) (by decide +kernel)) (by decide +kernel)
theorem fl_F_47 : av_F R_F WS cl8 47 6 5 := ⟨R_F, T_F, 9, rfl, Nat.le_of_ble_eq_true rfl, la_F, fk_F_47⟩
theorem fk_F_51 : Cond.fieldLink R_F 51 (T_F 6).1 (T_F 6).2.1 (T_F 6).2.2.1 ∈ WS := ws_t (List.mem_of_getElem? (i := 165) (by decide +kernel)) (by decide +kernel)
theorem fl_F_51 : av_F R_F WS cl8 51 6 6 := ⟨R_F, T_F, 9, rfl, Nat.le_of_ble_eq_true rfl, la_F, fk_F_51⟩
theorem fp_F_51 : av_FP R_F WS cl8 51 6 6 (tq_F 6) := ⟨R_F, T_F, 9, tq_F, rfl, Nat.le_of_ble_eq_true rfl, la_F, fk_F_51, t_F_ok, n_F, rfl, t_F_ok 6 (Nat.le_of_ble_eq_true rfl)⟩
theorem fk_F_55 : Cond.fieldLink R_F 55 (T_F 7).1 (T_F 7).2.1 (T_F 7).2.2.1 ∈ WS := ws_t (List.mem_of_getElem? (i := 166) (by decide +kernel)) (by decide +kernel)
theorem fl_F_55 : av_F R_F WS cl8 55 6 7 := ⟨R_F, T_F, 9, rfl, Nat.le_of_ble_eq_true rfl, la_F, fk_F_55⟩
theorem fp_F_55 : av_FP R_F WS cl8 55 6 7 (tq_F 7) := ⟨R_F, T_F, 9, tq_F, rfl, Nat.le_of_ble_eq_true rfl, la_F, fk_F_55, t_F_ok, n_F, rfl, t_F_ok 7 (Nat.le_of_ble_eq_true rfl)⟩
theorem fk_F_59 : Cond.fieldLink R_F 59 (T_F 8).1 (T_F 8).2.1 (T_F 8).2.2.1 ∈ WS := ws_t (List.mem_of_getElem? (i := 167) (by decide +kernel)) (by decide +kernel)
theorem fl_F_59 : av_F R_F WS cl8 59 6 8 := ⟨R_F, T_F, 9, rfl, Nat.le_of_ble_eq_true rfl, la_F, fk_F_59⟩
theorem fp_F_59 : av_FP R_F WS cl8 59 6 8 (tq_F 8) := ⟨R_F, T_F, 9, tq_F, rfl, Nat.le_of_ble_eq_true rfl, la_F, fk_F_59, t_F_ok, n_F, rfl, t_F_ok 8 (Nat.le_of_ble_eq_true rfl)⟩
theorem fk_M_58 : Cond.fieldLink R_M 58 (T_M 0).1 (T_M 0).2.1 (T_M 0).2.2.1 ∈ WS := ws_t (List.mem_of_getElem? (i := 634) (by decide +kernel)) (by decide +kernel)
theorem fl_M_58 : av_F R_M WS cl8 58 7 0 := ⟨R_M, T_M, 19, rfl, Nat.le_of_ble_eq_true rfl, la_M, fk_M_58⟩
theorem fp_M_58 : av_FP R_M WS cl8 58 7 0 (tq_M 0) := ⟨R_M, T_M, 19, tq_M, rfl, Nat.le_of_ble_eq_true rfl, la_M, fk_M_58, t_M_ok, n_M, rfl, t_M_ok 0 (Nat.le_of_ble_eq_true rfl)⟩
theorem fk_M_61 : Cond.fieldLink R_M 61 (T_M 1).1 (T_M 1).2.1 (T_M 1).2.2.1 ∈ WS := ws_t (List.mem_of_getElem? (i := 635) (by decide +kernel)) (by decide +kernel)
theorem fl_M_61 : av_F R_M WS cl8 61 7 1 := ⟨R_M, T_M, 19, rfl, Nat.le_of_ble_eq_true rfl, la_M, fk_M_61⟩
theorem fp_M_61 : av_FP R_M WS cl8 61 7 1 (tq_M 1) := ⟨R_M, T_M, 19, tq_M, rfl, Nat.le_of_ble_eq_true rfl, la_M, fk_M_61, t_M_ok, n_M, rfl, t_M_ok 1 (Nat.le_of_ble_eq_true rfl)⟩
theorem fk_M_7 : Cond.fieldLink R_M 7 (T_M 2).1 (T_M 2).2.1 (T_M 2).2.2.1 ∈ WS := ws_t (List.mem_of_getElem? (i := 636) (by decide +kernel)) (by decide +kernel)
theorem fl_M_7 : av_F R_M WS cl8 7 7 2 := ⟨R_M, T_M, 19, rfl, Nat.le_of_ble_eq_true rfl, la_M, fk_M_7⟩
theorem fk_M_13 : Cond.fieldLink R_M 13 (T_M 3).1 (T_M 3).2.1 (T_M 3).2.2.1 ∈ WS := ws_t (List.mem_of_getElem? (i := 637) (by decide +kernel)) (by decide +kernel)
theorem fl_M_13 : av_F R_M WS cl8 13 7 3 := ⟨R_M, T_M, 19, rfl, Nat.le_of_ble_eq_true rfl, la_M, fk_M_13⟩
theorem fk_M_64 : Cond.fieldLink R_M 64 (T_M 4).1 (T_M 4).2.1 (T_M 4).2.2.1 ∈ WS := ws_t (List.mem_of_getElem? (i := 638) (by decide +kernel)) (by decide +kernel)
theorem fl_M_64 : av_F R_M WS cl8 64 7 4 := ⟨R_M, T_M, 19, rfl, Nat.le_of_ble_eq_true rfl, la_M, fk_M_64⟩
theorem fp_M_64 : av_FP R_M WS cl8 64 7 4 (tq_M 4) := ⟨R_M, T_M, 19, tq_M, rfl, Nat.le_of_ble_eq_true rfl, la_M, fk_M_64, t_M_ok, n_M, rfl, t_M_ok 4 (Nat.le_of_ble_eq_true rfl)⟩
theorem fk_M_16 : Cond.fieldLink R_M 16 (T_M 5).1 (T_M 5).2.1 (T_M 5).2.2.1 ∈ WS := ws_t (List.mem_of_getElem? (i := 639) (by decide +kernel)) (by decide +kernel)
theorem fl_M_16 : av_F R_M WS cl8 16 7 5 := ⟨R_M, T_M, 19, rfl, Nat.le_of_ble_eq_true rfl, la_M, fk_M_16⟩
theorem fk_M_19 : Cond.fieldLink R_M 19 (T_M 6).1 (T_M 6).2.1 (T_M 6).2.2.1 ∈ WS := ws_t (List.mem_of_getElem? (i := 640) (by decide +kernel)) (by decide +kernel)
theorem fl_M_19 : av_F R_M WS cl8 19 7 6 := ⟨R_M, T_M, 19, rfl, Nat.le_of_ble_eq_true rfl, la_M, fk_M_19⟩
theorem fk_M_22 : Cond.fieldLink R_M 22 (T_M 7).1 (T_M 7).2.1 (T_M 7).2.2.1 ∈ WS := ws_t (List.mem_of_getElem? (i := 641) (by decide +kernel)) (by decide +kernel)
theorem fl_M_22 : av_F R_M WS cl8 22 7 7 := ⟨R_M, T_M, 19, rfl, Nat.le_of_ble_eq_true rfl, la_M, fk_M_22⟩
theorem fk_M_25 : Cond.fieldLink R_M 25 (T_M 8).1 (T_M 8).2.1 (T_M 8).2.2.1 ∈ WS := ws_t (List.mem_of_getElem? (i := 642) (by decide +kernel)) (by decide +kernel)
theorem fl_M_25 : av_F R_M WS cl8 25 7 8 := ⟨R_M, T_M, 19, rfl, Nat.le_of_ble_eq_true rfl, la_M, fk_M_25⟩
theorem fk_M_28 : Cond.fieldLink R_M 28 (T_M 9).1 (T_M 9).2.1 (T_M 9).2.2.1 ∈ WS := ws_t (List.mem_of_getElem? (i := 643) (by decide +kernel)) (by decide +kernel)
theorem fl_M_28 : av_F R_M WS cl8 28 7 9 := ⟨R_M, T_M, 19, rfl, Nat.le_of_ble_eq_true rfl, la_M, fk_M_28⟩
theorem fp_M_28 : av_FP R_M WS cl8 28 7 9 (tq_M 9) := ⟨R_M, T_M, 19, tq_M, rfl, Nat.le_of_ble_eq_true rfl, la_M, fk_M_28, t_M_ok, n_M, rfl, t_M_ok 9 (Nat.le_of_ble_eq_true rfl)⟩
theorem fk_M_32 : Cond.fieldLink R_M 32 (T_M 10).1 (T_M 10).2.1 (T_M 10).2.2.1 ∈ WS := ws_t (List.mem_of_getElem? (i := 644) (by decide +kernel)) (by decide +kernel)
theorem fl_M_32 : av_F R_M WS cl8 32 7 10 := ⟨R_M, T_M, 19, rfl, Nat.le_of_ble_eq_true rfl, la_M, fk_M_32⟩
theorem fk_M_36 : Cond.fieldLink R_M 36 (T_M 11).1 (T_M 11).2.1 (T_M 11).2.2.1 ∈ WS := ws_t (List.mem_of_getElem? (i := 645) (by decide +kernel)) (by decide +kernel)
theorem fl_M_36 : av_F R_M WS cl8 36 7 11 := ⟨R_M, T_M, 19, rfl, Nat.le_of_ble_eq_true rfl, la_M, fk_M_36⟩
theorem fk_M_39 : Cond.fieldLink R_M 39 (T_M 12).1 (T_M 12).2.1 (T_M 12).2.2.1 ∈ WS := ws_t (List.mem_of_getElem? (i := 646) (by decide +kernel)) (by decide +kernel)
theorem fl_M_39 : av_F R_M WS cl8 39 7 12 := ⟨R_M, T_M, 19, rfl, Nat.le_of_ble_eq_true rfl, la_M, fk_M_39⟩
theorem fk_M_42 : Cond.fieldLink R_M 42 (T_M 13).1 (T_M 13).2.1 (T_M 13).2.2.1 ∈ WS := ws_t (List.mem_of_getElem? (i := 647) (by decide +kernel)) (by decide +kernel)
theorem fl_M_42 : av_F R_M WS cl8 42 7 13 := ⟨R_M, T_M, 19, rfl, Nat.le_of_ble_eq_true rfl, la_M, fk_M_42⟩
theorem fk_M_45 : Cond.fieldLink R_M 45 (T_M 14).1 (T_M 14).2.1 (T_M 14).2.2.1 ∈ WS := ws_t (List.mem_of_getElem? (i := 648) (by decide +kernel)) (by decide +kernel)
theorem fl_M_45 : av_F R_M WS cl8 45 7 14 := ⟨R_M, T_M, 19, rfl, Nat.le_of_ble_eq_true rfl, la_M, fk_M_45⟩
theorem fk_M_48 : Cond.fieldLink R_M 48 (T_M 15).1 (T_M 15).2.1 (T_M 15).2.2.1 ∈ WS := ws_t (List.mem_of_getElem? (i := 649) (by decide +kernel)) (by decide +kernel)
theorem fl_M_48 : av_F R_M WS cl8 48 7 15 := ⟨R_M, T_M, 19, rfl, Nat.le_of_ble_eq_true rfl, la_M, fk_M_48⟩
theorem fk_M_113 : Cond.fieldLink R_M 113 (T_M 16).1 (T_M 16).2.1 (T_M 16).2.2.1 ∈ WS := ws_t (List.mem_of_getElem? (i := 650) (by decide +kernel)) (by decide +kernel)
theorem fl_M_113 : av_F R_M WS cl8 113 7 16 := ⟨R_M, T_M, 19, rfl, Nat.le_of_ble_eq_true rfl, la_M, fk_M_113⟩
theorem fp_M_113 : av_FP R_M WS cl8 113 7 16 (tq_M 16) := ⟨R_M, T_M, 19, tq_M, rfl, Nat.le_of_ble_eq_true rfl, la_M, fk_M_113, t_M_ok, n_M, rfl, t_M_ok 16 (Nat.le_of_ble_eq_true rfl)⟩
theorem fk_M_52 : Cond.fieldLink R_M 52 (T_M 17).1 (T_M 17).2.1 (T_M 17).2.2.1 ∈ WS := ws_t (List.mem_of_getElem? (i := 651) (by decide +kernel)) (by decide +kernel)
theorem fl_M_52 : av_F R_M WS cl8 52 7 17 := ⟨R_M, T_M, 19, rfl, Nat.le_of_ble_eq_true rfl, la_M, fk_M_52⟩
theorem fk_M_55 : Cond.fieldLink R_M 55 (T_M 18).1 (T_M 18).2.1 (T_M 18).2.2.1 ∈ WS := ws_t (List.mem_of_getElem? (i := 652) (by decide +kernel)) (by decide +kernel)
theorem fl_M_55 : av_F R_M WS cl8 55 7 18 := ⟨R_M, T_M, 19, rfl, Nat.le_of_ble_eq_true rfl, la_M, fk_M_55⟩
theorem fl_O_27 : av_FN R_O "FaultTreeDesk" WS NS cl8 27 1 0 := ⟨R_E, T_E, 3, rfl, Nat.le_of_ble_eq_true rfl, la_E, List.mem_of_getElem? (i := 1) rfl⟩
theorem fl_F_86 : av_FN R_F "FaultTreeDesk" WS NS cl8 86 1 0 := ⟨R_E, T_E, 3, rfl, Nat.le_of_ble_eq_true rfl, la_E, List.mem_of_getElem? (i := 2) rfl⟩
theorem fl_T_41 : av_FN R_T "FaultTreeDesk" WS NS cl8 41 1 1 := ⟨R_E, T_E, 3, rfl, Nat.le_of_ble_eq_true rfl, la_E, List.mem_of_getElem? (i := 3) rfl⟩
theorem fl_F_95 : av_FN R_F "FaultTreeDesk" WS NS cl8 95 1 1 := ⟨R_E, T_E, 3, rfl, Nat.le_of_ble_eq_true rfl, la_E, List.mem_of_getElem? (i := 4) rfl⟩
theorem fl_O_15 : av_FN R_O "FaultTreeDesk" WS NS cl8 15 1 2 := ⟨R_E, T_E, 3, rfl, Nat.le_of_ble_eq_true rfl, la_E, List.mem_of_getElem? (i := 5) rfl⟩
theorem fl_T_30 : av_FN R_T "FaultTreeDesk" WS NS cl8 30 1 2 := ⟨R_E, T_E, 3, rfl, Nat.le_of_ble_eq_true rfl, la_E, List.mem_of_getElem? (i := 6) rfl⟩
theorem fl_F_66 : av_FN R_F "FaultTreeDesk" WS NS cl8 66 1 2 := ⟨R_E, T_E, 3, rfl, Nat.le_of_ble_eq_true rfl, la_E, List.mem_of_getElem? (i := 7) rfl⟩
theorem fl_T_78 : av_FN R_T "FaultTreeDesk" WS NS cl8 78 2 0 := ⟨R_G, T_G, 5, rfl, Nat.le_of_ble_eq_true rfl, la_G, List.mem_of_getElem? (i := 9) rfl⟩
theorem fl_T_89 : av_FN R_T "FaultTreeDesk" WS NS cl8 89 2 1 := ⟨R_G, T_G, 5, rfl, Nat.le_of_ble_eq_true rfl, la_G, List.mem_of_getElem? (i := 10) rfl⟩
theorem fl_T_72 : av_FN R_T "FaultTreeDesk" WS NS cl8 72 2 2 := ⟨R_G, T_G, 5, rfl, Nat.le_of_ble_eq_true rfl, la_G, List.mem_of_getElem? (i := 11) rfl⟩
theorem fl_T_65 : av_FN R_T "FaultTreeDesk" WS NS cl8 65 2 3 := ⟨R_G, T_G, 5, rfl, Nat.le_of_ble_eq_true rfl, la_G, List.mem_of_getElem? (i := 12) rfl⟩
theorem fl_T_64 : av_FN R_T "FaultTreeDesk" WS NS cl8 64 2 4 := ⟨R_G, T_G, 5, rfl, Nat.le_of_ble_eq_true rfl, la_G, List.mem_of_getElem? (i := 13) rfl⟩
theorem fl_F_102 : av_FN R_F "FaultTreeDesk" WS NS cl8 102 2 4 := ⟨R_G, T_G, 5, rfl, Nat.le_of_ble_eq_true rfl, la_G, List.mem_of_getElem? (i := 14) rfl⟩
theorem fl_X_34 : av_FN R_X "FaultTreeDesk" WS NS cl8 34 5 0 := ⟨R_T, T_T, 5, rfl, Nat.le_of_ble_eq_true rfl, la_T, List.mem_of_getElem? (i := 16) rfl⟩
theorem fl_X_31 : av_FN R_X "FaultTreeDesk" WS NS cl8 31 5 3 := ⟨R_T, T_T, 5, rfl, Nat.le_of_ble_eq_true rfl, la_T, List.mem_of_getElem? (i := 17) rfl⟩
theorem fl_X_37 : av_FN R_X "FaultTreeDesk" WS NS cl8 37 5 4 := ⟨R_T, T_T, 5, rfl, Nat.le_of_ble_eq_true rfl, la_T, List.mem_of_getElem? (i := 18) rfl⟩
theorem fl_F_177 : av_FN R_F "FaultTreeDesk" WS NS cl8 177 4 3 := ⟨R_X, T_X, 5, rfl, Nat.le_of_ble_eq_true rfl, la_X, List.mem_of_getElem? (i := 22) rfl⟩
theorem fl_F_208 : av_FN R_F "FaultTreeDesk" WS NS cl8 208 4 4 := ⟨R_X, T_X, 5, rfl, Nat.le_of_ble_eq_true rfl, la_X, List.mem_of_getElem? (i := 23) rfl⟩
theorem st_T : Cond.fieldLinkNest R_T 54 "FaultTreeDesk" "ON_IN_WORD" "[J" "FaultTreeDesk" ∈ NS := List.mem_of_getElem? (i := 24) rfl
theorem st_X : Cond.fieldLinkNest R_X 65 "FaultTreeDesk" "ON_IN_WORD" "[J" "FaultTreeDesk" ∈ NS := List.mem_of_getElem? (i := 25) rfl
theorem in_D : Cond.initialized "FaultTreeDesk$Diagram" ∈ WS := ws_t (List.mem_of_getElem? (i := 6) (by decide +kernel)) (by decide +kernel)
theorem in_E : Cond.initialized "FaultTreeDesk$Events" ∈ WS := ws_t (List.mem_of_getElem? (i := 2) (by decide +kernel)) (by decide +kernel)
theorem in_G : Cond.initialized "FaultTreeDesk$Gates" ∈ WS := ws_t (List.mem_of_getElem? (i := 3) (by decide +kernel)) (by decide +kernel)
theorem in_O : Cond.initialized "FaultTreeDesk$Odds" ∈ WS := ws_t (List.mem_of_getElem? (i := 5) (by decide +kernel)) (by decide +kernel)
theorem in_X : Cond.initialized "FaultTreeDesk$Terms" ∈ WS := ws_t (List.mem_of_getElem? (i := 7) (by decide +kernel)) (by decide +kernel)
theorem in_T : Cond.initialized "FaultTreeDesk$Truth" ∈ WS := ws_t (List.mem_of_getElem? (i := 4) (by decide +kernel)) (by decide +kernel)
theorem in_F : Cond.initialized "FaultTreeDesk" ∈ WS := ws_t (List.mem_of_getElem? (i := 1) (by decide +kernel)) (by decide +kernel)
theorem in_M : Cond.initialized "FaultTreeDeskModel" ∈ WS := ws_t (List.mem_of_getElem? (i := 8) (by decide +kernel)) (by decide +kernel)
theorem in_L : Cond.initialized "FaultTreeDeskLaw" ∈ WS := ws_t (List.mem_of_getElem? (i := 0) (by decide +kernel)) (by decide +kernel)
theorem in_JI : Cond.initialized "java/lang/Integer" ∈ WS := ws_t (List.mem_of_getElem? (i := 14) (by decide +kernel)) (by decide +kernel)
theorem in_JL : Cond.initialized "java/lang/Long" ∈ WS := ws_t (List.mem_of_getElem? (i := 17) (by decide +kernel)) (by decide +kernel)
theorem in_JM : Cond.initialized "java/lang/Math" ∈ WS := ws_t (List.mem_of_getElem? (i := 16) (by decide +kernel)) (by decide +kernel)
theorem cc_JI_265 : Cond.constant "java/lang/Integer" 265 (1431655765 : Int32) ∈ WS := ws_t (List.mem_of_getElem? (i := 364) (by decide +kernel)) (by decide +kernel)
theorem cc_JI_266 : Cond.constant "java/lang/Integer" 266 (858993459 : Int32) ∈ WS := ws_t (List.mem_of_getElem? (i := 365) (by decide +kernel)) (by decide +kernel)
theorem cc_JI_267 : Cond.constant "java/lang/Integer" 267 (252645135 : Int32) ∈ WS := ws_t (List.mem_of_getElem? (i := 366) (by decide +kernel)) (by decide +kernel)
theorem cl_T_52 : Cond.constantLong "FaultTreeDesk$Truth" 52 (-1 : Int64) ∈ WS := ws_t (List.mem_of_getElem? (i := 430) (by decide +kernel)) (by decide +kernel)
theorem cl_O_31 : Cond.constantLong "FaultTreeDesk$Odds" 31 (10 : Int64) ∈ WS := ws_t (List.mem_of_getElem? (i := 482) (by decide +kernel)) (by decide +kernel)
theorem cl_X_81 : Cond.constantLong "FaultTreeDesk$Terms" 81 (-1 : Int64) ∈ WS := ws_t (List.mem_of_getElem? (i := 534) (by decide +kernel)) (by decide +kernel)
theorem cl_JL_314 : Cond.constantLong "java/lang/Long" 314 (6148914691236517205 : Int64) ∈ WS := ws_t (List.mem_of_getElem? (i := 551) (by decide +kernel)) (by decide +kernel)
theorem cl_JL_316 : Cond.constantLong "java/lang/Long" 316 (3689348814741910323 : Int64) ∈ WS := ws_t (List.mem_of_getElem? (i := 552) (by decide +kernel)) (by decide +kernel)
theorem cl_JL_318 : Cond.constantLong "java/lang/Long" 318 (1085102592571150095 : Int64) ∈ WS := ws_t (List.mem_of_getElem? (i := 553) (by decide +kernel)) (by decide +kernel)
theorem cl_M_97 : Cond.constantLong "FaultTreeDeskModel" 97 (10 : Int64) ∈ WS := ws_t (List.mem_of_getElem? (i := 769) (by decide +kernel)) (by decide +kernel)
theorem cl_M_126 : Cond.constantLong "FaultTreeDeskModel" 126 (-1 : Int64) ∈ WS := ws_t (List.mem_of_getElem? (i := 809) (by decide +kernel)) (by decide +kernel)
abbrev b_F_init : ByteArray := prog_1_method_1_code
def y_F_init : MethodName := ⟨"FaultTreeDesk", "<init>", "()V"⟩
def w_F_init : List Cond := Cond.code y_F_init b_F_init 1 none :: WS
set_option maxRecDepth 100000 in
theorem co_F_init : Cond.code y_F_init b_F_init 1 none ∈ WS := ws_t (List.mem_of_getElem? (i := 24) rfl) rfl
theorem im_F_init : Cond.instanceMethod y_F_init ∈ WS := ws_t (List.mem_of_getElem? (i := 23) (by decide +kernel)) (by decide +kernel)
abbrev b_E_init : ByteArray := prog_3_method_1_code
def y_E_init : MethodName := ⟨"FaultTreeDesk$Events", "<init>", "()V"⟩
def w_E_init : List Cond := Cond.code y_E_init b_E_init 1 none :: WS
set_option maxRecDepth 100000 in
theorem co_E_init : Cond.code y_E_init b_E_init 1 none ∈ WS := ws_t (List.mem_of_getElem? (i := 32) rfl) rfl
theorem im_E_init : Cond.instanceMethod y_E_init ∈ WS := ws_t (List.mem_of_getElem? (i := 31) (by decide +kernel)) (by decide +kernel)
abbrev b_G_init : ByteArray := prog_4_method_1_code
def y_G_init : MethodName := ⟨"FaultTreeDesk$Gates", "<init>", "()V"⟩
def w_G_init : List Cond := Cond.code y_G_init b_G_init 1 none :: WS
set_option maxRecDepth 100000 in
theorem co_G_init : Cond.code y_G_init b_G_init 1 none ∈ WS := ws_t (List.mem_of_getElem? (i := 56) rfl) rfl
theorem im_G_init : Cond.instanceMethod y_G_init ∈ WS := ws_t (List.mem_of_getElem? (i := 55) (by decide +kernel)) (by decide +kernel)
abbrev b_T_init : ByteArray := prog_7_method_1_code
def y_T_init : MethodName := ⟨"FaultTreeDesk$Truth", "<init>", "()V"⟩
def w_T_init : List Cond := Cond.code y_T_init b_T_init 1 none :: WS
set_option maxRecDepth 100000 in
theorem co_T_init : Cond.code y_T_init b_T_init 1 none ∈ WS := ws_t (List.mem_of_getElem? (i := 84) rfl) rfl
theorem im_T_init : Cond.instanceMethod y_T_init ∈ WS := ws_t (List.mem_of_getElem? (i := 83) (by decide +kernel)) (by decide +kernel)
abbrev b_O_init : ByteArray := prog_5_method_1_code
def y_O_init : MethodName := ⟨"FaultTreeDesk$Odds", "<init>", "()V"⟩
def w_O_init : List Cond := Cond.code y_O_init b_O_init 1 none :: WS
set_option maxRecDepth 100000 in
theorem co_O_init : Cond.code y_O_init b_O_init 1 none ∈ WS := ws_t (List.mem_of_getElem? (i := 112) rfl) rfl
theorem im_O_init : Cond.instanceMethod y_O_init ∈ WS := ws_t (List.mem_of_getElem? (i := 111) (by decide +kernel)) (by decide +kernel)
abbrev b_D_init : ByteArray := prog_2_method_1_code
def y_D_init : MethodName := ⟨"FaultTreeDesk$Diagram", "<init>", "()V"⟩
def w_D_init : List Cond := Cond.code y_D_init b_D_init 1 none :: WS
set_option maxRecDepth 100000 in
theorem co_D_init : Cond.code y_D_init b_D_init 1 none ∈ WS := ws_t (List.mem_of_getElem? (i := 122) rfl) rfl
theorem im_D_init : Cond.instanceMethod y_D_init ∈ WS := ws_t (List.mem_of_getElem? (i := 121) (by decide +kernel)) (by decide +kernel)
abbrev b_X_init : ByteArray := prog_6_method_1_code
def y_X_init : MethodName := ⟨"FaultTreeDesk$Terms", "<init>", "()V"⟩
def w_X_init : List Cond := Cond.code y_X_init b_X_init 1 none :: WS
set_option maxRecDepth 100000 in
theorem co_X_init : Cond.code y_X_init b_X_init 1 none ∈ WS := ws_t (List.mem_of_getElem? (i := 138) rfl) rfl
theorem im_X_init : Cond.instanceMethod y_X_init ∈ WS := ws_t (List.mem_of_getElem? (i := 137) (by decide +kernel)) (by decide +kernel)
abbrev b_F_event : ByteArray := prog_1_method_2_code
def y_F_event : MethodName := ⟨"FaultTreeDesk", "event", "(I)I"⟩
def w_F_event : List Cond := Cond.code y_F_event b_F_event 2 (some .int) :: WS
set_option maxRecDepth 100000 in
theorem co_F_event : Cond.code y_F_event b_F_event 2 (some .int) ∈ WS := ws_t (List.mem_of_getElem? (i := 195) rfl) rfl
theorem im_F_event : Cond.instanceMethod y_F_event ∈ WS := ws_t (List.mem_of_getElem? (i := 193) (by decide +kernel)) (by decide +kernel)
theorem se_F_event : Cond.selects "FaultTreeDesk" y_F_event y_F_event ∈ WS := ws_t (List.mem_of_getElem? (i := 194) (by decide +kernel)) (by decide +kernel)
theorem cd_F_event : y_F_event.cls = R_F ∧ y_F_event.cls ≠ "java/lang/invoke/MethodHandle" ∧ y_F_event.cls ≠ "java/lang/invoke/VarHandle" ∧ (parseMethodDescriptor y_F_event.desc).map (fun d => d.parameters.length) = some 1 := by decide +kernel
abbrev b_F_needChance : ByteArray := prog_1_method_17_code
def y_F_needChance : MethodName := ⟨"FaultTreeDesk", "needChance", "(I)V"⟩
def w_F_needChance : List Cond := Cond.code y_F_needChance b_F_needChance 2 none :: WS
set_option maxRecDepth 100000 in
theorem co_F_needChance : Cond.code y_F_needChance b_F_needChance 2 none ∈ WS := ws_t (List.mem_of_getElem? (i := 199) rfl) rfl
theorem im_F_needChance : Cond.instanceMethod y_F_needChance ∈ WS := ws_t (List.mem_of_getElem? (i := 198) (by decide +kernel)) (by decide +kernel)
theorem se_F_needChance : Cond.selects "FaultTreeDesk" y_F_needChance y_F_needChance ∈ WS := ws_p (List.mem_of_getElem? (i := 0) (by decide +kernel)) (by decide +kernel)
theorem cd_F_needChance : y_F_needChance.cls = R_F ∧ y_F_needChance.cls ≠ "java/lang/invoke/MethodHandle" ∧ y_F_needChance.cls ≠ "java/lang/invoke/VarHandle" ∧ (parseMethodDescriptor y_F_needChance.desc).map (fun d => d.parameters.length) = some 1 := by decide +kernel
abbrev b_F_forgetAnswers : ByteArray := prog_1_method_23_code
def y_F_forgetAnswers : MethodName := ⟨"FaultTreeDesk", "forgetAnswers", "()V"⟩
def w_F_forgetAnswers : List Cond := Cond.code y_F_forgetAnswers b_F_forgetAnswers 1 none :: WS
set_option maxRecDepth 100000 in
theorem co_F_forgetAnswers : Cond.code y_F_forgetAnswers b_F_forgetAnswers 1 none ∈ WS := ws_t (List.mem_of_getElem? (i := 288) rfl) rfl
theorem im_F_forgetAnswers : Cond.instanceMethod y_F_forgetAnswers ∈ WS := ws_t (List.mem_of_getElem? (i := 287) (by decide +kernel)) (by decide +kernel)
theorem se_F_forgetAnswers : Cond.selects "FaultTreeDesk" y_F_forgetAnswers y_F_forgetAnswers ∈ WS := ws_p (List.mem_of_getElem? (i := 2) (by decide +kernel)) (by decide +kernel)
theorem cd_F_forgetAnswers : y_F_forgetAnswers.cls = R_F ∧ y_F_forgetAnswers.cls ≠ "java/lang/invoke/MethodHandle" ∧ y_F_forgetAnswers.cls ≠ "java/lang/invoke/VarHandle" ∧ (parseMethodDescriptor y_F_forgetAnswers.desc).map (fun d => d.parameters.length) = some 0 := by decide +kernel
abbrev b_E_add : ByteArray := prog_3_method_3_code
def y_E_add : MethodName := ⟨"FaultTreeDesk$Events", "add", "(I)I"⟩
def w_E_add : List Cond := Cond.code y_E_add b_E_add 2 (some .int) :: WS
set_option maxRecDepth 100000 in
theorem co_E_add : Cond.code y_E_add b_E_add 2 (some .int) ∈ WS := ws_t (List.mem_of_getElem? (i := 292) rfl) rfl
theorem im_E_add : Cond.instanceMethod y_E_add ∈ WS := ws_t (List.mem_of_getElem? (i := 290) (by decide +kernel)) (by decide +kernel)
theorem se_E_add : Cond.selects "FaultTreeDesk$Events" y_E_add y_E_add ∈ WS := ws_t (List.mem_of_getElem? (i := 291) (by decide +kernel)) (by decide +kernel)
theorem cd_E_add : y_E_add.cls = R_E ∧ y_E_add.cls ≠ "java/lang/invoke/MethodHandle" ∧ y_E_add.cls ≠ "java/lang/invoke/VarHandle" ∧ (parseMethodDescriptor y_E_add.desc).map (fun d => d.parameters.length) = some 1 := by decide +kernel
abbrev b_F_chance : ByteArray := prog_1_method_3_code
def y_F_chance : MethodName := ⟨"FaultTreeDesk", "chance", "(II)I"⟩
def w_F_chance : List Cond := Cond.code y_F_chance b_F_chance 4 (some .int) :: WS
set_option maxRecDepth 100000 in
theorem co_F_chance : Cond.code y_F_chance b_F_chance 4 (some .int) ∈ WS := ws_t (List.mem_of_getElem? (i := 299) rfl) rfl
theorem im_F_chance : Cond.instanceMethod y_F_chance ∈ WS := ws_t (List.mem_of_getElem? (i := 297) (by decide +kernel)) (by decide +kernel)
theorem se_F_chance : Cond.selects "FaultTreeDesk" y_F_chance y_F_chance ∈ WS := ws_t (List.mem_of_getElem? (i := 298) (by decide +kernel)) (by decide +kernel)
theorem cd_F_chance : y_F_chance.cls = R_F ∧ y_F_chance.cls ≠ "java/lang/invoke/MethodHandle" ∧ y_F_chance.cls ≠ "java/lang/invoke/VarHandle" ∧ (parseMethodDescriptor y_F_chance.desc).map (fun d => d.parameters.length) = some 2 := by decide +kernel
abbrev b_F_needEvent : ByteArray := prog_1_method_18_code
def y_F_needEvent : MethodName := ⟨"FaultTreeDesk", "needEvent", "(I)V"⟩
def w_F_needEvent : List Cond := Cond.code y_F_needEvent b_F_needEvent 2 none :: WS
set_option maxRecDepth 100000 in
theorem co_F_needEvent : Cond.code y_F_needEvent b_F_needEvent 2 none ∈ WS := ws_t (List.mem_of_getElem? (i := 303) rfl) rfl
theorem im_F_needEvent : Cond.instanceMethod y_F_needEvent ∈ WS := ws_t (List.mem_of_getElem? (i := 302) (by decide +kernel)) (by decide +kernel)
theorem se_F_needEvent : Cond.selects "FaultTreeDesk" y_F_needEvent y_F_needEvent ∈ WS := ws_p (List.mem_of_getElem? (i := 3) (by decide +kernel)) (by decide +kernel)
theorem cd_F_needEvent : y_F_needEvent.cls = R_F ∧ y_F_needEvent.cls ≠ "java/lang/invoke/MethodHandle" ∧ y_F_needEvent.cls ≠ "java/lang/invoke/VarHandle" ∧ (parseMethodDescriptor y_F_needEvent.desc).map (fun d => d.parameters.length) = some 1 := by decide +kernel
abbrev b_E_has : ByteArray := prog_3_method_2_code
def y_E_has : MethodName := ⟨"FaultTreeDesk$Events", "has", "(I)Z"⟩
def w_E_has : List Cond := Cond.code y_E_has b_E_has 2 (some .boolean) :: WS
set_option maxRecDepth 100000 in
theorem co_E_has : Cond.code y_E_has b_E_has 2 (some .boolean) ∈ WS := ws_t (List.mem_of_getElem? (i := 307) rfl) rfl
theorem im_E_has : Cond.instanceMethod y_E_has ∈ WS := ws_t (List.mem_of_getElem? (i := 305) (by decide +kernel)) (by decide +kernel)
theorem se_E_has : Cond.selects "FaultTreeDesk$Events" y_E_has y_E_has ∈ WS := ws_t (List.mem_of_getElem? (i := 306) (by decide +kernel)) (by decide +kernel)
theorem cd_E_has : y_E_has.cls = R_E ∧ y_E_has.cls ≠ "java/lang/invoke/MethodHandle" ∧ y_E_has.cls ≠ "java/lang/invoke/VarHandle" ∧ (parseMethodDescriptor y_E_has.desc).map (fun d => d.parameters.length) = some 1 := by decide +kernel
abbrev b_F_hold : ByteArray := prog_1_method_4_code
def y_F_hold : MethodName := ⟨"FaultTreeDesk", "hold", "(II)I"⟩
def w_F_hold : List Cond := Cond.code y_F_hold b_F_hold 4 (some .int) :: WS
set_option maxRecDepth 100000 in
theorem co_F_hold : Cond.code y_F_hold b_F_hold 4 (some .int) ∈ WS := ws_t (List.mem_of_getElem? (i := 315) rfl) rfl
theorem im_F_hold : Cond.instanceMethod y_F_hold ∈ WS := ws_t (List.mem_of_getElem? (i := 313) (by decide +kernel)) (by decide +kernel)
theorem se_F_hold : Cond.selects "FaultTreeDesk" y_F_hold y_F_hold ∈ WS := ws_t (List.mem_of_getElem? (i := 314) (by decide +kernel)) (by decide +kernel)
theorem cd_F_hold : y_F_hold.cls = R_F ∧ y_F_hold.cls ≠ "java/lang/invoke/MethodHandle" ∧ y_F_hold.cls ≠ "java/lang/invoke/VarHandle" ∧ (parseMethodDescriptor y_F_hold.desc).map (fun d => d.parameters.length) = some 2 := by decide +kernel
abbrev b_F_gate : ByteArray := prog_1_method_5_code
def y_F_gate : MethodName := ⟨"FaultTreeDesk", "gate", "(II)I"⟩
def w_F_gate : List Cond := Cond.code y_F_gate b_F_gate 3 (some .int) :: WS
set_option maxRecDepth 100000 in
theorem co_F_gate : Cond.code y_F_gate b_F_gate 3 (some .int) ∈ WS := ws_t (List.mem_of_getElem? (i := 323) rfl) rfl
theorem im_F_gate : Cond.instanceMethod y_F_gate ∈ WS := ws_t (List.mem_of_getElem? (i := 321) (by decide +kernel)) (by decide +kernel)
theorem se_F_gate : Cond.selects "FaultTreeDesk" y_F_gate y_F_gate ∈ WS := ws_t (List.mem_of_getElem? (i := 322) (by decide +kernel)) (by decide +kernel)
theorem cd_F_gate : y_F_gate.cls = R_F ∧ y_F_gate.cls ≠ "java/lang/invoke/MethodHandle" ∧ y_F_gate.cls ≠ "java/lang/invoke/VarHandle" ∧ (parseMethodDescriptor y_F_gate.desc).map (fun d => d.parameters.length) = some 2 := by decide +kernel
abbrev b_G_add : ByteArray := prog_4_method_4_code
def y_G_add : MethodName := ⟨"FaultTreeDesk$Gates", "add", "(II)I"⟩
def w_G_add : List Cond := Cond.code y_G_add b_G_add 3 (some .int) :: WS
set_option maxRecDepth 100000 in
theorem co_G_add : Cond.code y_G_add b_G_add 3 (some .int) ∈ WS := ws_t (List.mem_of_getElem? (i := 330) rfl) rfl
theorem im_G_add : Cond.instanceMethod y_G_add ∈ WS := ws_t (List.mem_of_getElem? (i := 328) (by decide +kernel)) (by decide +kernel)
theorem se_G_add : Cond.selects "FaultTreeDesk$Gates" y_G_add y_G_add ∈ WS := ws_t (List.mem_of_getElem? (i := 329) (by decide +kernel)) (by decide +kernel)
theorem cd_G_add : y_G_add.cls = R_G ∧ y_G_add.cls ≠ "java/lang/invoke/MethodHandle" ∧ y_G_add.cls ≠ "java/lang/invoke/VarHandle" ∧ (parseMethodDescriptor y_G_add.desc).map (fun d => d.parameters.length) = some 2 := by decide +kernel
abbrev b_F_input : ByteArray := prog_1_method_6_code
def y_F_input : MethodName := ⟨"FaultTreeDesk", "input", "(II)I"⟩
def w_F_input : List Cond := Cond.code y_F_input b_F_input 3 (some .int) :: WS
set_option maxRecDepth 100000 in
theorem co_F_input : Cond.code y_F_input b_F_input 3 (some .int) ∈ WS := ws_t (List.mem_of_getElem? (i := 338) rfl) rfl
theorem im_F_input : Cond.instanceMethod y_F_input ∈ WS := ws_t (List.mem_of_getElem? (i := 336) (by decide +kernel)) (by decide +kernel)
theorem se_F_input : Cond.selects "FaultTreeDesk" y_F_input y_F_input ∈ WS := ws_t (List.mem_of_getElem? (i := 337) (by decide +kernel)) (by decide +kernel)
theorem cd_F_input : y_F_input.cls = R_F ∧ y_F_input.cls ≠ "java/lang/invoke/MethodHandle" ∧ y_F_input.cls ≠ "java/lang/invoke/VarHandle" ∧ (parseMethodDescriptor y_F_input.desc).map (fun d => d.parameters.length) = some 2 := by decide +kernel
abbrev b_F_needGate : ByteArray := prog_1_method_19_code
def y_F_needGate : MethodName := ⟨"FaultTreeDesk", "needGate", "(I)V"⟩
def w_F_needGate : List Cond := Cond.code y_F_needGate b_F_needGate 2 none :: WS
set_option maxRecDepth 100000 in
theorem co_F_needGate : Cond.code y_F_needGate b_F_needGate 2 none ∈ WS := ws_t (List.mem_of_getElem? (i := 342) rfl) rfl
theorem im_F_needGate : Cond.instanceMethod y_F_needGate ∈ WS := ws_t (List.mem_of_getElem? (i := 341) (by decide +kernel)) (by decide +kernel)
theorem se_F_needGate : Cond.selects "FaultTreeDesk" y_F_needGate y_F_needGate ∈ WS := ws_p (List.mem_of_getElem? (i := 4) (by decide +kernel)) (by decide +kernel)
theorem cd_F_needGate : y_F_needGate.cls = R_F ∧ y_F_needGate.cls ≠ "java/lang/invoke/MethodHandle" ∧ y_F_needGate.cls ≠ "java/lang/invoke/VarHandle" ∧ (parseMethodDescriptor y_F_needGate.desc).map (fun d => d.parameters.length) = some 1 := by decide +kernel
abbrev b_G_has : ByteArray := prog_4_method_2_code
def y_G_has : MethodName := ⟨"FaultTreeDesk$Gates", "has", "(I)Z"⟩
def w_G_has : List Cond := Cond.code y_G_has b_G_has 2 (some .boolean) :: WS
set_option maxRecDepth 100000 in
theorem co_G_has : Cond.code y_G_has b_G_has 2 (some .boolean) ∈ WS := ws_t (List.mem_of_getElem? (i := 346) rfl) rfl
theorem im_G_has : Cond.instanceMethod y_G_has ∈ WS := ws_t (List.mem_of_getElem? (i := 344) (by decide +kernel)) (by decide +kernel)
theorem se_G_has : Cond.selects "FaultTreeDesk$Gates" y_G_has y_G_has ∈ WS := ws_t (List.mem_of_getElem? (i := 345) (by decide +kernel)) (by decide +kernel)
theorem cd_G_has : y_G_has.cls = R_G ∧ y_G_has.cls ≠ "java/lang/invoke/MethodHandle" ∧ y_G_has.cls ≠ "java/lang/invoke/VarHandle" ∧ (parseMethodDescriptor y_G_has.desc).map (fun d => d.parameters.length) = some 1 := by decide +kernel
abbrev b_G_hasCode : ByteArray := prog_4_method_3_code
def y_G_hasCode : MethodName := ⟨"FaultTreeDesk$Gates", "hasCode", "(I)Z"⟩
def w_G_hasCode : List Cond := Cond.code y_G_hasCode b_G_hasCode 2 (some .boolean) :: WS
set_option maxRecDepth 100000 in
theorem co_G_hasCode : Cond.code y_G_hasCode b_G_hasCode 2 (some .boolean) ∈ WS := ws_t (List.mem_of_getElem? (i := 351) rfl) rfl
theorem im_G_hasCode : Cond.instanceMethod y_G_hasCode ∈ WS := ws_t (List.mem_of_getElem? (i := 349) (by decide +kernel)) (by decide +kernel)
theorem se_G_hasCode : Cond.selects "FaultTreeDesk$Gates" y_G_hasCode y_G_hasCode ∈ WS := ws_t (List.mem_of_getElem? (i := 350) (by decide +kernel)) (by decide +kernel)
theorem cd_G_hasCode : y_G_hasCode.cls = R_G ∧ y_G_hasCode.cls ≠ "java/lang/invoke/MethodHandle" ∧ y_G_hasCode.cls ≠ "java/lang/invoke/VarHandle" ∧ (parseMethodDescriptor y_G_hasCode.desc).map (fun d => d.parameters.length) = some 1 := by decide +kernel
abbrev b_G_isChild : ByteArray := prog_4_method_5_code
def y_G_isChild : MethodName := ⟨"FaultTreeDesk$Gates", "isChild", "(II)Z"⟩
def w_G_isChild : List Cond := Cond.code y_G_isChild b_G_isChild 3 (some .boolean) :: WS
set_option maxRecDepth 100000 in
theorem co_G_isChild : Cond.code y_G_isChild b_G_isChild 3 (some .boolean) ∈ WS := ws_t (List.mem_of_getElem? (i := 356) rfl) rfl
theorem im_G_isChild : Cond.instanceMethod y_G_isChild ∈ WS := ws_t (List.mem_of_getElem? (i := 354) (by decide +kernel)) (by decide +kernel)
theorem se_G_isChild : Cond.selects "FaultTreeDesk$Gates" y_G_isChild y_G_isChild ∈ WS := ws_t (List.mem_of_getElem? (i := 355) (by decide +kernel)) (by decide +kernel)
theorem cd_G_isChild : y_G_isChild.cls = R_G ∧ y_G_isChild.cls ≠ "java/lang/invoke/MethodHandle" ∧ y_G_isChild.cls ≠ "java/lang/invoke/VarHandle" ∧ (parseMethodDescriptor y_G_isChild.desc).map (fun d => d.parameters.length) = some 2 := by decide +kernel
abbrev b_G_isFull : ByteArray := prog_4_method_6_code
def y_G_isFull : MethodName := ⟨"FaultTreeDesk$Gates", "isFull", "(I)Z"⟩
def w_G_isFull : List Cond := Cond.code y_G_isFull b_G_isFull 3 (some .boolean) :: WS
set_option maxRecDepth 100000 in
theorem co_G_isFull : Cond.code y_G_isFull b_G_isFull 3 (some .boolean) ∈ WS := ws_t (List.mem_of_getElem? (i := 360) rfl) rfl
theorem im_G_isFull : Cond.instanceMethod y_G_isFull ∈ WS := ws_t (List.mem_of_getElem? (i := 358) (by decide +kernel)) (by decide +kernel)
theorem se_G_isFull : Cond.selects "FaultTreeDesk$Gates" y_G_isFull y_G_isFull ∈ WS := ws_t (List.mem_of_getElem? (i := 359) (by decide +kernel)) (by decide +kernel)
theorem cd_G_isFull : y_G_isFull.cls = R_G ∧ y_G_isFull.cls ≠ "java/lang/invoke/MethodHandle" ∧ y_G_isFull.cls ≠ "java/lang/invoke/VarHandle" ∧ (parseMethodDescriptor y_G_isFull.desc).map (fun d => d.parameters.length) = some 1 := by decide +kernel
abbrev b_JI_bitCount : ByteArray := prog_14_method_49_code
def y_JI_bitCount : MethodName := ⟨"java/lang/Integer", "bitCount", "(I)I"⟩
def w_JI_bitCount : List Cond := Cond.code y_JI_bitCount b_JI_bitCount 1 (some .int) :: WS
set_option maxRecDepth 100000 in
theorem co_JI_bitCount : Cond.code y_JI_bitCount b_JI_bitCount 1 (some .int) ∈ WS := ws_t (List.mem_of_getElem? (i := 363) rfl) rfl
theorem sm_JI_bitCount : Cond.static y_JI_bitCount ∈ WS := ws_t (List.mem_of_getElem? (i := 362) (by decide +kernel)) (by decide +kernel)
theorem ce_JI_bitCount : y_JI_bitCount.cls ≠ "java/lang/invoke/MethodHandle" ∧ y_JI_bitCount.cls ≠ "java/lang/invoke/VarHandle" ∧ (parseMethodDescriptor y_JI_bitCount.desc).map (fun d => d.parameters.length) = some 1 := by decide +kernel
abbrev b_G_wouldLoop : ByteArray := prog_4_method_7_code
def y_G_wouldLoop : MethodName := ⟨"FaultTreeDesk$Gates", "wouldLoop", "(II)Z"⟩
def w_G_wouldLoop : List Cond := Cond.code y_G_wouldLoop b_G_wouldLoop 3 (some .boolean) :: WS
set_option maxRecDepth 100000 in
theorem co_G_wouldLoop : Cond.code y_G_wouldLoop b_G_wouldLoop 3 (some .boolean) ∈ WS := ws_t (List.mem_of_getElem? (i := 371) rfl) rfl
theorem im_G_wouldLoop : Cond.instanceMethod y_G_wouldLoop ∈ WS := ws_t (List.mem_of_getElem? (i := 369) (by decide +kernel)) (by decide +kernel)
theorem se_G_wouldLoop : Cond.selects "FaultTreeDesk$Gates" y_G_wouldLoop y_G_wouldLoop ∈ WS := ws_t (List.mem_of_getElem? (i := 370) (by decide +kernel)) (by decide +kernel)
theorem cd_G_wouldLoop : y_G_wouldLoop.cls = R_G ∧ y_G_wouldLoop.cls ≠ "java/lang/invoke/MethodHandle" ∧ y_G_wouldLoop.cls ≠ "java/lang/invoke/VarHandle" ∧ (parseMethodDescriptor y_G_wouldLoop.desc).map (fun d => d.parameters.length) = some 2 := by decide +kernel
abbrev b_G_withBelow : ByteArray := prog_4_method_9_code
def y_G_withBelow : MethodName := ⟨"FaultTreeDesk$Gates", "withBelow", "(I)I"⟩
def w_G_withBelow : List Cond := Cond.code y_G_withBelow b_G_withBelow 2 (some .int) :: WS
set_option maxRecDepth 100000 in
theorem co_G_withBelow : Cond.code y_G_withBelow b_G_withBelow 2 (some .int) ∈ WS := ws_t (List.mem_of_getElem? (i := 375) rfl) rfl
theorem im_G_withBelow : Cond.instanceMethod y_G_withBelow ∈ WS := ws_t (List.mem_of_getElem? (i := 373) (by decide +kernel)) (by decide +kernel)
theorem se_G_withBelow : Cond.selects "FaultTreeDesk$Gates" y_G_withBelow y_G_withBelow ∈ WS := ws_t (List.mem_of_getElem? (i := 374) (by decide +kernel)) (by decide +kernel)
theorem cd_G_withBelow : y_G_withBelow.cls = R_G ∧ y_G_withBelow.cls ≠ "java/lang/invoke/MethodHandle" ∧ y_G_withBelow.cls ≠ "java/lang/invoke/VarHandle" ∧ (parseMethodDescriptor y_G_withBelow.desc).map (fun d => d.parameters.length) = some 1 := by decide +kernel
abbrev b_G_join : ByteArray := prog_4_method_8_code
def y_G_join : MethodName := ⟨"FaultTreeDesk$Gates", "join", "(II)I"⟩
def w_G_join : List Cond := Cond.code y_G_join b_G_join 5 (some .int) :: WS
set_option maxRecDepth 100000 in
theorem co_G_join : Cond.code y_G_join b_G_join 5 (some .int) ∈ WS := ws_t (List.mem_of_getElem? (i := 395) rfl) rfl
theorem im_G_join : Cond.instanceMethod y_G_join ∈ WS := ws_t (List.mem_of_getElem? (i := 393) (by decide +kernel)) (by decide +kernel)
theorem se_G_join : Cond.selects "FaultTreeDesk$Gates" y_G_join y_G_join ∈ WS := ws_t (List.mem_of_getElem? (i := 394) (by decide +kernel)) (by decide +kernel)
theorem cd_G_join : y_G_join.cls = R_G ∧ y_G_join.cls ≠ "java/lang/invoke/MethodHandle" ∧ y_G_join.cls ≠ "java/lang/invoke/VarHandle" ∧ (parseMethodDescriptor y_G_join.desc).map (fun d => d.parameters.length) = some 2 := by decide +kernel
abbrev b_F_top : ByteArray := prog_1_method_7_code
def y_F_top : MethodName := ⟨"FaultTreeDesk", "top", "(I)V"⟩
def w_F_top : List Cond := Cond.code y_F_top b_F_top 2 none :: WS
set_option maxRecDepth 100000 in
theorem co_F_top : Cond.code y_F_top b_F_top 2 none ∈ WS := ws_t (List.mem_of_getElem? (i := 402) rfl) rfl
theorem im_F_top : Cond.instanceMethod y_F_top ∈ WS := ws_t (List.mem_of_getElem? (i := 400) (by decide +kernel)) (by decide +kernel)
theorem se_F_top : Cond.selects "FaultTreeDesk" y_F_top y_F_top ∈ WS := ws_t (List.mem_of_getElem? (i := 401) (by decide +kernel)) (by decide +kernel)
theorem cd_F_top : y_F_top.cls = R_F ∧ y_F_top.cls ≠ "java/lang/invoke/MethodHandle" ∧ y_F_top.cls ≠ "java/lang/invoke/VarHandle" ∧ (parseMethodDescriptor y_F_top.desc).map (fun d => d.parameters.length) = some 1 := by decide +kernel
abbrev b_F_value : ByteArray := prog_1_method_8_code
def y_F_value : MethodName := ⟨"FaultTreeDesk", "value", "(I)Z"⟩
def w_F_value : List Cond := Cond.code y_F_value b_F_value 2 (some .boolean) :: WS
set_option maxRecDepth 100000 in
theorem co_F_value : Cond.code y_F_value b_F_value 2 (some .boolean) ∈ WS := ws_t (List.mem_of_getElem? (i := 409) rfl) rfl
theorem im_F_value : Cond.instanceMethod y_F_value ∈ WS := ws_t (List.mem_of_getElem? (i := 407) (by decide +kernel)) (by decide +kernel)
theorem se_F_value : Cond.selects "FaultTreeDesk" y_F_value y_F_value ∈ WS := ws_t (List.mem_of_getElem? (i := 408) (by decide +kernel)) (by decide +kernel)
theorem cd_F_value : y_F_value.cls = R_F ∧ y_F_value.cls ≠ "java/lang/invoke/MethodHandle" ∧ y_F_value.cls ≠ "java/lang/invoke/VarHandle" ∧ (parseMethodDescriptor y_F_value.desc).map (fun d => d.parameters.length) = some 1 := by decide +kernel
abbrev b_F_needTop : ByteArray := prog_1_method_20_code
def y_F_needTop : MethodName := ⟨"FaultTreeDesk", "needTop", "()V"⟩
def w_F_needTop : List Cond := Cond.code y_F_needTop b_F_needTop 1 none :: WS
set_option maxRecDepth 100000 in
theorem co_F_needTop : Cond.code y_F_needTop b_F_needTop 1 none ∈ WS := ws_t (List.mem_of_getElem? (i := 413) rfl) rfl
theorem im_F_needTop : Cond.instanceMethod y_F_needTop ∈ WS := ws_t (List.mem_of_getElem? (i := 412) (by decide +kernel)) (by decide +kernel)
theorem se_F_needTop : Cond.selects "FaultTreeDesk" y_F_needTop y_F_needTop ∈ WS := ws_p (List.mem_of_getElem? (i := 5) (by decide +kernel)) (by decide +kernel)
theorem cd_F_needTop : y_F_needTop.cls = R_F ∧ y_F_needTop.cls ≠ "java/lang/invoke/MethodHandle" ∧ y_F_needTop.cls ≠ "java/lang/invoke/VarHandle" ∧ (parseMethodDescriptor y_F_needTop.desc).map (fun d => d.parameters.length) = some 0 := by decide +kernel
abbrev b_F_freshenTruth : ByteArray := prog_1_method_22_code
def y_F_freshenTruth : MethodName := ⟨"FaultTreeDesk", "freshenTruth", "()V"⟩
def w_F_freshenTruth : List Cond := Cond.code y_F_freshenTruth b_F_freshenTruth 1 none :: WS
set_option maxRecDepth 100000 in
theorem co_F_freshenTruth : Cond.code y_F_freshenTruth b_F_freshenTruth 1 none ∈ WS := ws_t (List.mem_of_getElem? (i := 418) rfl) rfl
theorem im_F_freshenTruth : Cond.instanceMethod y_F_freshenTruth ∈ WS := ws_t (List.mem_of_getElem? (i := 417) (by decide +kernel)) (by decide +kernel)
theorem se_F_freshenTruth : Cond.selects "FaultTreeDesk" y_F_freshenTruth y_F_freshenTruth ∈ WS := ws_p (List.mem_of_getElem? (i := 6) (by decide +kernel)) (by decide +kernel)
theorem cd_F_freshenTruth : y_F_freshenTruth.cls = R_F ∧ y_F_freshenTruth.cls ≠ "java/lang/invoke/MethodHandle" ∧ y_F_freshenTruth.cls ≠ "java/lang/invoke/VarHandle" ∧ (parseMethodDescriptor y_F_freshenTruth.desc).map (fun d => d.parameters.length) = some 0 := by decide +kernel
abbrev b_T_fill : ByteArray := prog_7_method_2_code
def y_T_fill : MethodName := ⟨"FaultTreeDesk$Truth", "fill", "(LFaultTreeDesk$Events;LFaultTreeDesk$Gates;II)V"⟩
def w_T_fill : List Cond := Cond.code y_T_fill b_T_fill 6 none :: WS
set_option maxRecDepth 100000 in
theorem co_T_fill : Cond.code y_T_fill b_T_fill 6 none ∈ WS := ws_t (List.mem_of_getElem? (i := 422) rfl) rfl
theorem im_T_fill : Cond.instanceMethod y_T_fill ∈ WS := ws_t (List.mem_of_getElem? (i := 420) (by decide +kernel)) (by decide +kernel)
theorem se_T_fill : Cond.selects "FaultTreeDesk$Truth" y_T_fill y_T_fill ∈ WS := ws_t (List.mem_of_getElem? (i := 421) (by decide +kernel)) (by decide +kernel)
theorem cd_T_fill : y_T_fill.cls = R_T ∧ y_T_fill.cls ≠ "java/lang/invoke/MethodHandle" ∧ y_T_fill.cls ≠ "java/lang/invoke/VarHandle" ∧ (parseMethodDescriptor y_T_fill.desc).map (fun d => d.parameters.length) = some 4 := by decide +kernel
theorem co_JM_max : Cond.code Lib.Math.max.name Lib.Math.max.code 2 (some .int) ∈ WS := ws_t (List.mem_of_getElem? (i := 425) (by decide +kernel)) rfl
theorem sm_JM_max : Cond.static Lib.Math.max.name ∈ WS := ws_t (List.mem_of_getElem? (i := 424) (by decide +kernel)) (by decide +kernel)
abbrev b_T_fillEvent : ByteArray := prog_7_method_4_code
def y_T_fillEvent : MethodName := ⟨"FaultTreeDesk$Truth", "fillEvent", "(II)V"⟩
def w_T_fillEvent : List Cond := Cond.code y_T_fillEvent b_T_fillEvent 4 none :: WS
set_option maxRecDepth 100000 in
theorem co_T_fillEvent : Cond.code y_T_fillEvent b_T_fillEvent 4 none ∈ WS := ws_t (List.mem_of_getElem? (i := 429) rfl) rfl
theorem im_T_fillEvent : Cond.instanceMethod y_T_fillEvent ∈ WS := ws_t (List.mem_of_getElem? (i := 428) (by decide +kernel)) (by decide +kernel)
theorem se_T_fillEvent : Cond.selects "FaultTreeDesk$Truth" y_T_fillEvent y_T_fillEvent ∈ WS := ws_p (List.mem_of_getElem? (i := 7) (by decide +kernel)) (by decide +kernel)
theorem cd_T_fillEvent : y_T_fillEvent.cls = R_T ∧ y_T_fillEvent.cls ≠ "java/lang/invoke/MethodHandle" ∧ y_T_fillEvent.cls ≠ "java/lang/invoke/VarHandle" ∧ (parseMethodDescriptor y_T_fillEvent.desc).map (fun d => d.parameters.length) = some 2 := by decide +kernel
abbrev b_T_fillGates : ByteArray := prog_7_method_5_code
def y_T_fillGates : MethodName := ⟨"FaultTreeDesk$Truth", "fillGates", "(LFaultTreeDesk$Gates;)V"⟩
def w_T_fillGates : List Cond := Cond.code y_T_fillGates b_T_fillGates 6 none :: WS
set_option maxRecDepth 100000 in
theorem co_T_fillGates : Cond.code y_T_fillGates b_T_fillGates 6 none ∈ WS := ws_t (List.mem_of_getElem? (i := 436) rfl) rfl
theorem im_T_fillGates : Cond.instanceMethod y_T_fillGates ∈ WS := ws_t (List.mem_of_getElem? (i := 435) (by decide +kernel)) (by decide +kernel)
theorem se_T_fillGates : Cond.selects "FaultTreeDesk$Truth" y_T_fillGates y_T_fillGates ∈ WS := ws_p (List.mem_of_getElem? (i := 8) (by decide +kernel)) (by decide +kernel)
theorem cd_T_fillGates : y_T_fillGates.cls = R_T ∧ y_T_fillGates.cls ≠ "java/lang/invoke/MethodHandle" ∧ y_T_fillGates.cls ≠ "java/lang/invoke/VarHandle" ∧ (parseMethodDescriptor y_T_fillGates.desc).map (fun d => d.parameters.length) = some 1 := by decide +kernel
abbrev b_T_fillGate : ByteArray := prog_7_method_6_code
def y_T_fillGate : MethodName := ⟨"FaultTreeDesk$Truth", "fillGate", "(LFaultTreeDesk$Gates;I)V"⟩
def w_T_fillGate : List Cond := Cond.code y_T_fillGate b_T_fillGate 8 none :: WS
set_option maxRecDepth 100000 in
theorem co_T_fillGate : Cond.code y_T_fillGate b_T_fillGate 8 none ∈ WS := ws_t (List.mem_of_getElem? (i := 441) rfl) rfl
theorem im_T_fillGate : Cond.instanceMethod y_T_fillGate ∈ WS := ws_t (List.mem_of_getElem? (i := 440) (by decide +kernel)) (by decide +kernel)
theorem se_T_fillGate : Cond.selects "FaultTreeDesk$Truth" y_T_fillGate y_T_fillGate ∈ WS := ws_p (List.mem_of_getElem? (i := 9) (by decide +kernel)) (by decide +kernel)
theorem cd_T_fillGate : y_T_fillGate.cls = R_T ∧ y_T_fillGate.cls ≠ "java/lang/invoke/MethodHandle" ∧ y_T_fillGate.cls ≠ "java/lang/invoke/VarHandle" ∧ (parseMethodDescriptor y_T_fillGate.desc).map (fun d => d.parameters.length) = some 2 := by decide +kernel
abbrev b_T_listInputs : ByteArray := prog_7_method_7_code
def y_T_listInputs : MethodName := ⟨"FaultTreeDesk$Truth", "listInputs", "(I)I"⟩
def w_T_listInputs : List Cond := Cond.code y_T_listInputs b_T_listInputs 4 (some .int) :: WS
set_option maxRecDepth 100000 in
theorem co_T_listInputs : Cond.code y_T_listInputs b_T_listInputs 4 (some .int) ∈ WS := ws_t (List.mem_of_getElem? (i := 445) rfl) rfl
theorem im_T_listInputs : Cond.instanceMethod y_T_listInputs ∈ WS := ws_t (List.mem_of_getElem? (i := 444) (by decide +kernel)) (by decide +kernel)
theorem se_T_listInputs : Cond.selects "FaultTreeDesk$Truth" y_T_listInputs y_T_listInputs ∈ WS := ws_p (List.mem_of_getElem? (i := 10) (by decide +kernel)) (by decide +kernel)
theorem cd_T_listInputs : y_T_listInputs.cls = R_T ∧ y_T_listInputs.cls ≠ "java/lang/invoke/MethodHandle" ∧ y_T_listInputs.cls ≠ "java/lang/invoke/VarHandle" ∧ (parseMethodDescriptor y_T_listInputs.desc).map (fun d => d.parameters.length) = some 1 := by decide +kernel
abbrev b_T_oddWord : ByteArray := prog_7_method_8_code
def y_T_oddWord : MethodName := ⟨"FaultTreeDesk$Truth", "oddWord", "(II)J"⟩
def w_T_oddWord : List Cond := Cond.code y_T_oddWord b_T_oddWord 6 (some .long) :: WS
set_option maxRecDepth 100000 in
theorem co_T_oddWord : Cond.code y_T_oddWord b_T_oddWord 6 (some .long) ∈ WS := ws_t (List.mem_of_getElem? (i := 449) rfl) rfl
theorem im_T_oddWord : Cond.instanceMethod y_T_oddWord ∈ WS := ws_t (List.mem_of_getElem? (i := 448) (by decide +kernel)) (by decide +kernel)
theorem se_T_oddWord : Cond.selects "FaultTreeDesk$Truth" y_T_oddWord y_T_oddWord ∈ WS := ws_p (List.mem_of_getElem? (i := 11) (by decide +kernel)) (by decide +kernel)
theorem cd_T_oddWord : y_T_oddWord.cls = R_T ∧ y_T_oddWord.cls ≠ "java/lang/invoke/MethodHandle" ∧ y_T_oddWord.cls ≠ "java/lang/invoke/VarHandle" ∧ (parseMethodDescriptor y_T_oddWord.desc).map (fun d => d.parameters.length) = some 2 := by decide +kernel
abbrev b_T_atLeastWord : ByteArray := prog_7_method_9_code
def y_T_atLeastWord : MethodName := ⟨"FaultTreeDesk$Truth", "atLeastWord", "(III)J"⟩
def w_T_atLeastWord : List Cond := Cond.code y_T_atLeastWord b_T_atLeastWord 15 (some .long) :: WS
set_option maxRecDepth 100000 in
theorem co_T_atLeastWord : Cond.code y_T_atLeastWord b_T_atLeastWord 15 (some .long) ∈ WS := ws_t (List.mem_of_getElem? (i := 453) rfl) rfl
theorem im_T_atLeastWord : Cond.instanceMethod y_T_atLeastWord ∈ WS := ws_t (List.mem_of_getElem? (i := 452) (by decide +kernel)) (by decide +kernel)
theorem se_T_atLeastWord : Cond.selects "FaultTreeDesk$Truth" y_T_atLeastWord y_T_atLeastWord ∈ WS := ws_p (List.mem_of_getElem? (i := 12) (by decide +kernel)) (by decide +kernel)
theorem cd_T_atLeastWord : y_T_atLeastWord.cls = R_T ∧ y_T_atLeastWord.cls ≠ "java/lang/invoke/MethodHandle" ∧ y_T_atLeastWord.cls ≠ "java/lang/invoke/VarHandle" ∧ (parseMethodDescriptor y_T_atLeastWord.desc).map (fun d => d.parameters.length) = some 3 := by decide +kernel
abbrev b_T_isTrue : ByteArray := prog_7_method_3_code
def y_T_isTrue : MethodName := ⟨"FaultTreeDesk$Truth", "isTrue", "(I)Z"⟩
def w_T_isTrue : List Cond := Cond.code y_T_isTrue b_T_isTrue 3 (some .boolean) :: WS
set_option maxRecDepth 100000 in
theorem co_T_isTrue : Cond.code y_T_isTrue b_T_isTrue 3 (some .boolean) ∈ WS := ws_t (List.mem_of_getElem? (i := 457) rfl) rfl
theorem im_T_isTrue : Cond.instanceMethod y_T_isTrue ∈ WS := ws_t (List.mem_of_getElem? (i := 455) (by decide +kernel)) (by decide +kernel)
theorem se_T_isTrue : Cond.selects "FaultTreeDesk$Truth" y_T_isTrue y_T_isTrue ∈ WS := ws_t (List.mem_of_getElem? (i := 456) (by decide +kernel)) (by decide +kernel)
theorem cd_T_isTrue : y_T_isTrue.cls = R_T ∧ y_T_isTrue.cls ≠ "java/lang/invoke/MethodHandle" ∧ y_T_isTrue.cls ≠ "java/lang/invoke/VarHandle" ∧ (parseMethodDescriptor y_T_isTrue.desc).map (fun d => d.parameters.length) = some 1 := by decide +kernel
abbrev b_F_odds : ByteArray := prog_1_method_9_code
def y_F_odds : MethodName := ⟨"FaultTreeDesk", "odds", "()J"⟩
def w_F_odds : List Cond := Cond.code y_F_odds b_F_odds 1 (some .long) :: WS
set_option maxRecDepth 100000 in
theorem co_F_odds : Cond.code y_F_odds b_F_odds 1 (some .long) ∈ WS := ws_t (List.mem_of_getElem? (i := 464) rfl) rfl
theorem im_F_odds : Cond.instanceMethod y_F_odds ∈ WS := ws_t (List.mem_of_getElem? (i := 462) (by decide +kernel)) (by decide +kernel)
theorem se_F_odds : Cond.selects "FaultTreeDesk" y_F_odds y_F_odds ∈ WS := ws_t (List.mem_of_getElem? (i := 463) (by decide +kernel)) (by decide +kernel)
theorem cd_F_odds : y_F_odds.cls = R_F ∧ y_F_odds.cls ≠ "java/lang/invoke/MethodHandle" ∧ y_F_odds.cls ≠ "java/lang/invoke/VarHandle" ∧ (parseMethodDescriptor y_F_odds.desc).map (fun d => d.parameters.length) = some 0 := by decide +kernel
abbrev b_O_total : ByteArray := prog_5_method_2_code
def y_O_total : MethodName := ⟨"FaultTreeDesk$Odds", "total", "(LFaultTreeDesk$Truth;LFaultTreeDesk$Events;I)J"⟩
def w_O_total : List Cond := Cond.code y_O_total b_O_total 9 (some .long) :: WS
set_option maxRecDepth 100000 in
theorem co_O_total : Cond.code y_O_total b_O_total 9 (some .long) ∈ WS := ws_t (List.mem_of_getElem? (i := 468) rfl) rfl
theorem im_O_total : Cond.instanceMethod y_O_total ∈ WS := ws_t (List.mem_of_getElem? (i := 466) (by decide +kernel)) (by decide +kernel)
theorem se_O_total : Cond.selects "FaultTreeDesk$Odds" y_O_total y_O_total ∈ WS := ws_t (List.mem_of_getElem? (i := 467) (by decide +kernel)) (by decide +kernel)
theorem cd_O_total : y_O_total.cls = R_O ∧ y_O_total.cls ≠ "java/lang/invoke/MethodHandle" ∧ y_O_total.cls ≠ "java/lang/invoke/VarHandle" ∧ (parseMethodDescriptor y_O_total.desc).map (fun d => d.parameters.length) = some 3 := by decide +kernel
abbrev b_F_digit : ByteArray := prog_1_method_10_code
def y_F_digit : MethodName := ⟨"FaultTreeDesk", "digit", "(I)I"⟩
def w_F_digit : List Cond := Cond.code y_F_digit b_F_digit 2 (some .int) :: WS
set_option maxRecDepth 100000 in
theorem co_F_digit : Cond.code y_F_digit b_F_digit 2 (some .int) ∈ WS := ws_t (List.mem_of_getElem? (i := 476) rfl) rfl
theorem im_F_digit : Cond.instanceMethod y_F_digit ∈ WS := ws_t (List.mem_of_getElem? (i := 474) (by decide +kernel)) (by decide +kernel)
theorem se_F_digit : Cond.selects "FaultTreeDesk" y_F_digit y_F_digit ∈ WS := ws_t (List.mem_of_getElem? (i := 475) (by decide +kernel)) (by decide +kernel)
theorem cd_F_digit : y_F_digit.cls = R_F ∧ y_F_digit.cls ≠ "java/lang/invoke/MethodHandle" ∧ y_F_digit.cls ≠ "java/lang/invoke/VarHandle" ∧ (parseMethodDescriptor y_F_digit.desc).map (fun d => d.parameters.length) = some 1 := by decide +kernel
abbrev b_O_decimal : ByteArray := prog_5_method_3_code
def y_O_decimal : MethodName := ⟨"FaultTreeDesk$Odds", "decimal", "(JII)I"⟩
def w_O_decimal : List Cond := Cond.code y_O_decimal b_O_decimal 9 (some .int) :: WS
set_option maxRecDepth 100000 in
theorem co_O_decimal : Cond.code y_O_decimal b_O_decimal 9 (some .int) ∈ WS := ws_t (List.mem_of_getElem? (i := 481) rfl) rfl
theorem im_O_decimal : Cond.instanceMethod y_O_decimal ∈ WS := ws_t (List.mem_of_getElem? (i := 479) (by decide +kernel)) (by decide +kernel)
theorem se_O_decimal : Cond.selects "FaultTreeDesk$Odds" y_O_decimal y_O_decimal ∈ WS := ws_t (List.mem_of_getElem? (i := 480) (by decide +kernel)) (by decide +kernel)
theorem cd_O_decimal : y_O_decimal.cls = R_O ∧ y_O_decimal.cls ≠ "java/lang/invoke/MethodHandle" ∧ y_O_decimal.cls ≠ "java/lang/invoke/VarHandle" ∧ (parseMethodDescriptor y_O_decimal.desc).map (fun d => d.parameters.length) = some 3 := by decide +kernel
abbrev b_F_weight : ByteArray := prog_1_method_11_code
def y_F_weight : MethodName := ⟨"FaultTreeDesk", "weight", "(I)J"⟩
def w_F_weight : List Cond := Cond.code y_F_weight b_F_weight 2 (some .long) :: WS
set_option maxRecDepth 100000 in
theorem co_F_weight : Cond.code y_F_weight b_F_weight 2 (some .long) ∈ WS := ws_t (List.mem_of_getElem? (i := 489) rfl) rfl
theorem im_F_weight : Cond.instanceMethod y_F_weight ∈ WS := ws_t (List.mem_of_getElem? (i := 487) (by decide +kernel)) (by decide +kernel)
theorem se_F_weight : Cond.selects "FaultTreeDesk" y_F_weight y_F_weight ∈ WS := ws_t (List.mem_of_getElem? (i := 488) (by decide +kernel)) (by decide +kernel)
theorem cd_F_weight : y_F_weight.cls = R_F ∧ y_F_weight.cls ≠ "java/lang/invoke/MethodHandle" ∧ y_F_weight.cls ≠ "java/lang/invoke/VarHandle" ∧ (parseMethodDescriptor y_F_weight.desc).map (fun d => d.parameters.length) = some 1 := by decide +kernel
abbrev b_F_nodes : ByteArray := prog_1_method_12_code
def y_F_nodes : MethodName := ⟨"FaultTreeDesk", "nodes", "()I"⟩
def w_F_nodes : List Cond := Cond.code y_F_nodes b_F_nodes 1 (some .int) :: WS
set_option maxRecDepth 100000 in
theorem co_F_nodes : Cond.code y_F_nodes b_F_nodes 1 (some .int) ∈ WS := ws_t (List.mem_of_getElem? (i := 496) rfl) rfl
theorem im_F_nodes : Cond.instanceMethod y_F_nodes ∈ WS := ws_t (List.mem_of_getElem? (i := 494) (by decide +kernel)) (by decide +kernel)
theorem se_F_nodes : Cond.selects "FaultTreeDesk" y_F_nodes y_F_nodes ∈ WS := ws_t (List.mem_of_getElem? (i := 495) (by decide +kernel)) (by decide +kernel)
theorem cd_F_nodes : y_F_nodes.cls = R_F ∧ y_F_nodes.cls ≠ "java/lang/invoke/MethodHandle" ∧ y_F_nodes.cls ≠ "java/lang/invoke/VarHandle" ∧ (parseMethodDescriptor y_F_nodes.desc).map (fun d => d.parameters.length) = some 0 := by decide +kernel
abbrev b_D_countNodes : ByteArray := prog_2_method_2_code
def y_D_countNodes : MethodName := ⟨"FaultTreeDesk$Diagram", "countNodes", "(LFaultTreeDesk$Truth;I)I"⟩
def w_D_countNodes : List Cond := Cond.code y_D_countNodes b_D_countNodes 7 (some .int) :: WS
set_option maxRecDepth 100000 in
theorem co_D_countNodes : Cond.code y_D_countNodes b_D_countNodes 7 (some .int) ∈ WS := ws_t (List.mem_of_getElem? (i := 500) rfl) rfl
theorem im_D_countNodes : Cond.instanceMethod y_D_countNodes ∈ WS := ws_t (List.mem_of_getElem? (i := 498) (by decide +kernel)) (by decide +kernel)
theorem se_D_countNodes : Cond.selects "FaultTreeDesk$Diagram" y_D_countNodes y_D_countNodes ∈ WS := ws_t (List.mem_of_getElem? (i := 499) (by decide +kernel)) (by decide +kernel)
theorem cd_D_countNodes : y_D_countNodes.cls = R_D ∧ y_D_countNodes.cls ≠ "java/lang/invoke/MethodHandle" ∧ y_D_countNodes.cls ≠ "java/lang/invoke/VarHandle" ∧ (parseMethodDescriptor y_D_countNodes.desc).map (fun d => d.parameters.length) = some 2 := by decide +kernel
abbrev b_D_numberOf : ByteArray := prog_2_method_3_code
def y_D_numberOf : MethodName := ⟨"FaultTreeDesk$Diagram", "numberOf", "(III)I"⟩
def w_D_numberOf : List Cond := Cond.code y_D_numberOf b_D_numberOf 6 (some .int) :: WS
set_option maxRecDepth 100000 in
theorem co_D_numberOf : Cond.code y_D_numberOf b_D_numberOf 6 (some .int) ∈ WS := ws_t (List.mem_of_getElem? (i := 505) rfl) rfl
theorem im_D_numberOf : Cond.instanceMethod y_D_numberOf ∈ WS := ws_t (List.mem_of_getElem? (i := 504) (by decide +kernel)) (by decide +kernel)
theorem se_D_numberOf : Cond.selects "FaultTreeDesk$Diagram" y_D_numberOf y_D_numberOf ∈ WS := ws_p (List.mem_of_getElem? (i := 13) (by decide +kernel)) (by decide +kernel)
theorem cd_D_numberOf : y_D_numberOf.cls = R_D ∧ y_D_numberOf.cls ≠ "java/lang/invoke/MethodHandle" ∧ y_D_numberOf.cls ≠ "java/lang/invoke/VarHandle" ∧ (parseMethodDescriptor y_D_numberOf.desc).map (fun d => d.parameters.length) = some 3 := by decide +kernel
abbrev b_F_primes : ByteArray := prog_1_method_13_code
def y_F_primes : MethodName := ⟨"FaultTreeDesk", "primes", "(I)I"⟩
def w_F_primes : List Cond := Cond.code y_F_primes b_F_primes 2 (some .int) :: WS
set_option maxRecDepth 100000 in
theorem co_F_primes : Cond.code y_F_primes b_F_primes 2 (some .int) ∈ WS := ws_t (List.mem_of_getElem? (i := 512) rfl) rfl
theorem im_F_primes : Cond.instanceMethod y_F_primes ∈ WS := ws_t (List.mem_of_getElem? (i := 510) (by decide +kernel)) (by decide +kernel)
theorem se_F_primes : Cond.selects "FaultTreeDesk" y_F_primes y_F_primes ∈ WS := ws_t (List.mem_of_getElem? (i := 511) (by decide +kernel)) (by decide +kernel)
theorem cd_F_primes : y_F_primes.cls = R_F ∧ y_F_primes.cls ≠ "java/lang/invoke/MethodHandle" ∧ y_F_primes.cls ≠ "java/lang/invoke/VarHandle" ∧ (parseMethodDescriptor y_F_primes.desc).map (fun d => d.parameters.length) = some 1 := by decide +kernel
abbrev b_F_needTerms : ByteArray := prog_1_method_21_code
def y_F_needTerms : MethodName := ⟨"FaultTreeDesk", "needTerms", "()V"⟩
def w_F_needTerms : List Cond := Cond.code y_F_needTerms b_F_needTerms 1 none :: WS
set_option maxRecDepth 100000 in
theorem co_F_needTerms : Cond.code y_F_needTerms b_F_needTerms 1 none ∈ WS := ws_t (List.mem_of_getElem? (i := 517) rfl) rfl
theorem im_F_needTerms : Cond.instanceMethod y_F_needTerms ∈ WS := ws_t (List.mem_of_getElem? (i := 516) (by decide +kernel)) (by decide +kernel)
theorem se_F_needTerms : Cond.selects "FaultTreeDesk" y_F_needTerms y_F_needTerms ∈ WS := ws_p (List.mem_of_getElem? (i := 14) (by decide +kernel)) (by decide +kernel)
theorem cd_F_needTerms : y_F_needTerms.cls = R_F ∧ y_F_needTerms.cls ≠ "java/lang/invoke/MethodHandle" ∧ y_F_needTerms.cls ≠ "java/lang/invoke/VarHandle" ∧ (parseMethodDescriptor y_F_needTerms.desc).map (fun d => d.parameters.length) = some 0 := by decide +kernel
abbrev b_X_find : ByteArray := prog_6_method_2_code
def y_X_find : MethodName := ⟨"FaultTreeDesk$Terms", "find", "(LFaultTreeDesk$Truth;I)V"⟩
def w_X_find : List Cond := Cond.code y_X_find b_X_find 6 none :: WS
set_option maxRecDepth 100000 in
theorem co_X_find : Cond.code y_X_find b_X_find 6 none ∈ WS := ws_t (List.mem_of_getElem? (i := 521) rfl) rfl
theorem im_X_find : Cond.instanceMethod y_X_find ∈ WS := ws_t (List.mem_of_getElem? (i := 519) (by decide +kernel)) (by decide +kernel)
theorem se_X_find : Cond.selects "FaultTreeDesk$Terms" y_X_find y_X_find ∈ WS := ws_t (List.mem_of_getElem? (i := 520) (by decide +kernel)) (by decide +kernel)
theorem cd_X_find : y_X_find.cls = R_X ∧ y_X_find.cls ≠ "java/lang/invoke/MethodHandle" ∧ y_X_find.cls ≠ "java/lang/invoke/VarHandle" ∧ (parseMethodDescriptor y_X_find.desc).map (fun d => d.parameters.length) = some 2 := by decide +kernel
abbrev b_X_walk : ByteArray := prog_6_method_7_code
def y_X_walk : MethodName := ⟨"FaultTreeDesk$Terms", "walk", "(II)V"⟩
def w_X_walk : List Cond := Cond.code y_X_walk b_X_walk 11 none :: WS
set_option maxRecDepth 100000 in
theorem co_X_walk : Cond.code y_X_walk b_X_walk 11 none ∈ WS := ws_t (List.mem_of_getElem? (i := 525) rfl) rfl
theorem im_X_walk : Cond.instanceMethod y_X_walk ∈ WS := ws_t (List.mem_of_getElem? (i := 524) (by decide +kernel)) (by decide +kernel)
theorem se_X_walk : Cond.selects "FaultTreeDesk$Terms" y_X_walk y_X_walk ∈ WS := ws_p (List.mem_of_getElem? (i := 15) (by decide +kernel)) (by decide +kernel)
theorem cd_X_walk : y_X_walk.cls = R_X ∧ y_X_walk.cls ≠ "java/lang/invoke/MethodHandle" ∧ y_X_walk.cls ≠ "java/lang/invoke/VarHandle" ∧ (parseMethodDescriptor y_X_walk.desc).map (fun d => d.parameters.length) = some 2 := by decide +kernel
abbrev b_X_collect : ByteArray := prog_6_method_9_code
def y_X_collect : MethodName := ⟨"FaultTreeDesk$Terms", "collect", "(I)V"⟩
def w_X_collect : List Cond := Cond.code y_X_collect b_X_collect 5 none :: WS
set_option maxRecDepth 100000 in
theorem co_X_collect : Cond.code y_X_collect b_X_collect 5 none ∈ WS := ws_t (List.mem_of_getElem? (i := 529) rfl) rfl
theorem im_X_collect : Cond.instanceMethod y_X_collect ∈ WS := ws_t (List.mem_of_getElem? (i := 528) (by decide +kernel)) (by decide +kernel)
theorem se_X_collect : Cond.selects "FaultTreeDesk$Terms" y_X_collect y_X_collect ∈ WS := ws_p (List.mem_of_getElem? (i := 16) (by decide +kernel)) (by decide +kernel)
theorem cd_X_collect : y_X_collect.cls = R_X ∧ y_X_collect.cls ≠ "java/lang/invoke/MethodHandle" ∧ y_X_collect.cls ≠ "java/lang/invoke/VarHandle" ∧ (parseMethodDescriptor y_X_collect.desc).map (fun d => d.parameters.length) = some 1 := by decide +kernel
abbrev b_X_allKeptOrOff : ByteArray := prog_6_method_10_code
def y_X_allKeptOrOff : MethodName := ⟨"FaultTreeDesk$Terms", "allKeptOrOff", "(I)J"⟩
def w_X_allKeptOrOff : List Cond := Cond.code y_X_allKeptOrOff b_X_allKeptOrOff 5 (some .long) :: WS
set_option maxRecDepth 100000 in
theorem co_X_allKeptOrOff : Cond.code y_X_allKeptOrOff b_X_allKeptOrOff 5 (some .long) ∈ WS := ws_t (List.mem_of_getElem? (i := 533) rfl) rfl
theorem im_X_allKeptOrOff : Cond.instanceMethod y_X_allKeptOrOff ∈ WS := ws_t (List.mem_of_getElem? (i := 532) (by decide +kernel)) (by decide +kernel)
theorem se_X_allKeptOrOff : Cond.selects "FaultTreeDesk$Terms" y_X_allKeptOrOff y_X_allKeptOrOff ∈ WS := ws_p (List.mem_of_getElem? (i := 17) (by decide +kernel)) (by decide +kernel)
theorem cd_X_allKeptOrOff : y_X_allKeptOrOff.cls = R_X ∧ y_X_allKeptOrOff.cls ≠ "java/lang/invoke/MethodHandle" ∧ y_X_allKeptOrOff.cls ≠ "java/lang/invoke/VarHandle" ∧ (parseMethodDescriptor y_X_allKeptOrOff.desc).map (fun d => d.parameters.length) = some 1 := by decide +kernel
abbrev b_X_primeSettings : ByteArray := prog_6_method_11_code
def y_X_primeSettings : MethodName := ⟨"FaultTreeDesk$Terms", "primeSettings", "(II)J"⟩
def w_X_primeSettings : List Cond := Cond.code y_X_primeSettings b_X_primeSettings 6 (some .long) :: WS
set_option maxRecDepth 100000 in
theorem co_X_primeSettings : Cond.code y_X_primeSettings b_X_primeSettings 6 (some .long) ∈ WS := ws_t (List.mem_of_getElem? (i := 539) rfl) rfl
theorem im_X_primeSettings : Cond.instanceMethod y_X_primeSettings ∈ WS := ws_t (List.mem_of_getElem? (i := 538) (by decide +kernel)) (by decide +kernel)
theorem se_X_primeSettings : Cond.selects "FaultTreeDesk$Terms" y_X_primeSettings y_X_primeSettings ∈ WS := ws_p (List.mem_of_getElem? (i := 18) (by decide +kernel)) (by decide +kernel)
theorem cd_X_primeSettings : y_X_primeSettings.cls = R_X ∧ y_X_primeSettings.cls ≠ "java/lang/invoke/MethodHandle" ∧ y_X_primeSettings.cls ≠ "java/lang/invoke/VarHandle" ∧ (parseMethodDescriptor y_X_primeSettings.desc).map (fun d => d.parameters.length) = some 2 := by decide +kernel
abbrev b_X_flipped : ByteArray := prog_6_method_8_code
def y_X_flipped : MethodName := ⟨"FaultTreeDesk$Terms", "flipped", "([JII)J"⟩
def w_X_flipped : List Cond := Cond.code y_X_flipped b_X_flipped 7 (some .long) :: WS
set_option maxRecDepth 100000 in
theorem co_X_flipped : Cond.code y_X_flipped b_X_flipped 7 (some .long) ∈ WS := ws_t (List.mem_of_getElem? (i := 543) rfl) rfl
theorem im_X_flipped : Cond.instanceMethod y_X_flipped ∈ WS := ws_t (List.mem_of_getElem? (i := 542) (by decide +kernel)) (by decide +kernel)
theorem se_X_flipped : Cond.selects "FaultTreeDesk$Terms" y_X_flipped y_X_flipped ∈ WS := ws_p (List.mem_of_getElem? (i := 19) (by decide +kernel)) (by decide +kernel)
theorem cd_X_flipped : y_X_flipped.cls = R_X ∧ y_X_flipped.cls ≠ "java/lang/invoke/MethodHandle" ∧ y_X_flipped.cls ≠ "java/lang/invoke/VarHandle" ∧ (parseMethodDescriptor y_X_flipped.desc).map (fun d => d.parameters.length) = some 3 := by decide +kernel
abbrev b_X_addAll : ByteArray := prog_6_method_12_code
def y_X_addAll : MethodName := ⟨"FaultTreeDesk$Terms", "addAll", "(IIJ)V"⟩
def w_X_addAll : List Cond := Cond.code y_X_addAll b_X_addAll 9 none :: WS
set_option maxRecDepth 100000 in
theorem co_X_addAll : Cond.code y_X_addAll b_X_addAll 9 none ∈ WS := ws_t (List.mem_of_getElem? (i := 547) rfl) rfl
theorem im_X_addAll : Cond.instanceMethod y_X_addAll ∈ WS := ws_t (List.mem_of_getElem? (i := 546) (by decide +kernel)) (by decide +kernel)
theorem se_X_addAll : Cond.selects "FaultTreeDesk$Terms" y_X_addAll y_X_addAll ∈ WS := ws_p (List.mem_of_getElem? (i := 20) (by decide +kernel)) (by decide +kernel)
theorem cd_X_addAll : y_X_addAll.cls = R_X ∧ y_X_addAll.cls ≠ "java/lang/invoke/MethodHandle" ∧ y_X_addAll.cls ≠ "java/lang/invoke/VarHandle" ∧ (parseMethodDescriptor y_X_addAll.desc).map (fun d => d.parameters.length) = some 3 := by decide +kernel
abbrev b_JL_bitCount : ByteArray := prog_15_method_50_code
def y_JL_bitCount : MethodName := ⟨"java/lang/Long", "bitCount", "(J)I"⟩
def w_JL_bitCount : List Cond := Cond.code y_JL_bitCount b_JL_bitCount 2 (some .int) :: WS
set_option maxRecDepth 100000 in
theorem co_JL_bitCount : Cond.code y_JL_bitCount b_JL_bitCount 2 (some .int) ∈ WS := ws_t (List.mem_of_getElem? (i := 550) rfl) rfl
theorem sm_JL_bitCount : Cond.static y_JL_bitCount ∈ WS := ws_t (List.mem_of_getElem? (i := 549) (by decide +kernel)) (by decide +kernel)
theorem ce_JL_bitCount : y_JL_bitCount.cls ≠ "java/lang/invoke/MethodHandle" ∧ y_JL_bitCount.cls ≠ "java/lang/invoke/VarHandle" ∧ (parseMethodDescriptor y_JL_bitCount.desc).map (fun d => d.parameters.length) = some 1 := by decide +kernel
abbrev b_X_insert : ByteArray := prog_6_method_13_code
def y_X_insert : MethodName := ⟨"FaultTreeDesk$Terms", "insert", "(I)V"⟩
def w_X_insert : List Cond := Cond.code y_X_insert b_X_insert 3 none :: WS
set_option maxRecDepth 100000 in
theorem co_X_insert : Cond.code y_X_insert b_X_insert 3 none ∈ WS := ws_t (List.mem_of_getElem? (i := 558) rfl) rfl
theorem im_X_insert : Cond.instanceMethod y_X_insert ∈ WS := ws_t (List.mem_of_getElem? (i := 557) (by decide +kernel)) (by decide +kernel)
theorem se_X_insert : Cond.selects "FaultTreeDesk$Terms" y_X_insert y_X_insert ∈ WS := ws_p (List.mem_of_getElem? (i := 21) (by decide +kernel)) (by decide +kernel)
theorem cd_X_insert : y_X_insert.cls = R_X ∧ y_X_insert.cls ≠ "java/lang/invoke/MethodHandle" ∧ y_X_insert.cls ≠ "java/lang/invoke/VarHandle" ∧ (parseMethodDescriptor y_X_insert.desc).map (fun d => d.parameters.length) = some 1 := by decide +kernel
abbrev b_X_countUpTo : ByteArray := prog_6_method_5_code
def y_X_countUpTo : MethodName := ⟨"FaultTreeDesk$Terms", "countUpTo", "(I)I"⟩
def w_X_countUpTo : List Cond := Cond.code y_X_countUpTo b_X_countUpTo 4 (some .int) :: WS
set_option maxRecDepth 100000 in
theorem co_X_countUpTo : Cond.code y_X_countUpTo b_X_countUpTo 4 (some .int) ∈ WS := ws_t (List.mem_of_getElem? (i := 566) rfl) rfl
theorem im_X_countUpTo : Cond.instanceMethod y_X_countUpTo ∈ WS := ws_t (List.mem_of_getElem? (i := 564) (by decide +kernel)) (by decide +kernel)
theorem se_X_countUpTo : Cond.selects "FaultTreeDesk$Terms" y_X_countUpTo y_X_countUpTo ∈ WS := ws_t (List.mem_of_getElem? (i := 565) (by decide +kernel)) (by decide +kernel)
theorem cd_X_countUpTo : y_X_countUpTo.cls = R_X ∧ y_X_countUpTo.cls ≠ "java/lang/invoke/MethodHandle" ∧ y_X_countUpTo.cls ≠ "java/lang/invoke/VarHandle" ∧ (parseMethodDescriptor y_X_countUpTo.desc).map (fun d => d.parameters.length) = some 1 := by decide +kernel
abbrev b_F_prime : ByteArray := prog_1_method_14_code
def y_F_prime : MethodName := ⟨"FaultTreeDesk", "prime", "(II)I"⟩
def w_F_prime : List Cond := Cond.code y_F_prime b_F_prime 3 (some .int) :: WS
set_option maxRecDepth 100000 in
theorem co_F_prime : Cond.code y_F_prime b_F_prime 3 (some .int) ∈ WS := ws_t (List.mem_of_getElem? (i := 574) rfl) rfl
theorem im_F_prime : Cond.instanceMethod y_F_prime ∈ WS := ws_t (List.mem_of_getElem? (i := 572) (by decide +kernel)) (by decide +kernel)
theorem se_F_prime : Cond.selects "FaultTreeDesk" y_F_prime y_F_prime ∈ WS := ws_t (List.mem_of_getElem? (i := 573) (by decide +kernel)) (by decide +kernel)
theorem cd_F_prime : y_F_prime.cls = R_F ∧ y_F_prime.cls ≠ "java/lang/invoke/MethodHandle" ∧ y_F_prime.cls ≠ "java/lang/invoke/VarHandle" ∧ (parseMethodDescriptor y_F_prime.desc).map (fun d => d.parameters.length) = some 2 := by decide +kernel
abbrev b_X_onOf : ByteArray := prog_6_method_3_code
def y_X_onOf : MethodName := ⟨"FaultTreeDesk$Terms", "onOf", "(I)I"⟩
def w_X_onOf : List Cond := Cond.code y_X_onOf b_X_onOf 2 (some .int) :: WS
set_option maxRecDepth 100000 in
theorem co_X_onOf : Cond.code y_X_onOf b_X_onOf 2 (some .int) ∈ WS := ws_t (List.mem_of_getElem? (i := 595) rfl) rfl
theorem im_X_onOf : Cond.instanceMethod y_X_onOf ∈ WS := ws_t (List.mem_of_getElem? (i := 593) (by decide +kernel)) (by decide +kernel)
theorem se_X_onOf : Cond.selects "FaultTreeDesk$Terms" y_X_onOf y_X_onOf ∈ WS := ws_t (List.mem_of_getElem? (i := 594) (by decide +kernel)) (by decide +kernel)
theorem cd_X_onOf : y_X_onOf.cls = R_X ∧ y_X_onOf.cls ≠ "java/lang/invoke/MethodHandle" ∧ y_X_onOf.cls ≠ "java/lang/invoke/VarHandle" ∧ (parseMethodDescriptor y_X_onOf.desc).map (fun d => d.parameters.length) = some 1 := by decide +kernel
abbrev b_X_offOf : ByteArray := prog_6_method_4_code
def y_X_offOf : MethodName := ⟨"FaultTreeDesk$Terms", "offOf", "(I)I"⟩
def w_X_offOf : List Cond := Cond.code y_X_offOf b_X_offOf 2 (some .int) :: WS
set_option maxRecDepth 100000 in
theorem co_X_offOf : Cond.code y_X_offOf b_X_offOf 2 (some .int) ∈ WS := ws_t (List.mem_of_getElem? (i := 599) rfl) rfl
theorem im_X_offOf : Cond.instanceMethod y_X_offOf ∈ WS := ws_t (List.mem_of_getElem? (i := 597) (by decide +kernel)) (by decide +kernel)
theorem se_X_offOf : Cond.selects "FaultTreeDesk$Terms" y_X_offOf y_X_offOf ∈ WS := ws_t (List.mem_of_getElem? (i := 598) (by decide +kernel)) (by decide +kernel)
theorem cd_X_offOf : y_X_offOf.cls = R_X ∧ y_X_offOf.cls ≠ "java/lang/invoke/MethodHandle" ∧ y_X_offOf.cls ≠ "java/lang/invoke/VarHandle" ∧ (parseMethodDescriptor y_X_offOf.desc).map (fun d => d.parameters.length) = some 1 := by decide +kernel
abbrev b_F_share : ByteArray := prog_1_method_15_code
def y_F_share : MethodName := ⟨"FaultTreeDesk", "share", "(I)I"⟩
def w_F_share : List Cond := Cond.code y_F_share b_F_share 2 (some .int) :: WS
set_option maxRecDepth 100000 in
theorem co_F_share : Cond.code y_F_share b_F_share 2 (some .int) ∈ WS := ws_t (List.mem_of_getElem? (i := 606) rfl) rfl
theorem im_F_share : Cond.instanceMethod y_F_share ∈ WS := ws_t (List.mem_of_getElem? (i := 604) (by decide +kernel)) (by decide +kernel)
theorem se_F_share : Cond.selects "FaultTreeDesk" y_F_share y_F_share ∈ WS := ws_t (List.mem_of_getElem? (i := 605) (by decide +kernel)) (by decide +kernel)
theorem cd_F_share : y_F_share.cls = R_F ∧ y_F_share.cls ≠ "java/lang/invoke/MethodHandle" ∧ y_F_share.cls ≠ "java/lang/invoke/VarHandle" ∧ (parseMethodDescriptor y_F_share.desc).map (fun d => d.parameters.length) = some 1 := by decide +kernel
abbrev b_X_countWith : ByteArray := prog_6_method_6_code
def y_X_countWith : MethodName := ⟨"FaultTreeDesk$Terms", "countWith", "(I)I"⟩
def w_X_countWith : List Cond := Cond.code y_X_countWith b_X_countWith 4 (some .int) :: WS
set_option maxRecDepth 100000 in
theorem co_X_countWith : Cond.code y_X_countWith b_X_countWith 4 (some .int) ∈ WS := ws_t (List.mem_of_getElem? (i := 610) rfl) rfl
theorem im_X_countWith : Cond.instanceMethod y_X_countWith ∈ WS := ws_t (List.mem_of_getElem? (i := 608) (by decide +kernel)) (by decide +kernel)
theorem se_X_countWith : Cond.selects "FaultTreeDesk$Terms" y_X_countWith y_X_countWith ∈ WS := ws_t (List.mem_of_getElem? (i := 609) (by decide +kernel)) (by decide +kernel)
theorem cd_X_countWith : y_X_countWith.cls = R_X ∧ y_X_countWith.cls ≠ "java/lang/invoke/MethodHandle" ∧ y_X_countWith.cls ≠ "java/lang/invoke/VarHandle" ∧ (parseMethodDescriptor y_X_countWith.desc).map (fun d => d.parameters.length) = some 1 := by decide +kernel
abbrev b_F_modules : ByteArray := prog_1_method_16_code
def y_F_modules : MethodName := ⟨"FaultTreeDesk", "modules", "()I"⟩
def w_F_modules : List Cond := Cond.code y_F_modules b_F_modules 1 (some .int) :: WS
set_option maxRecDepth 100000 in
theorem co_F_modules : Cond.code y_F_modules b_F_modules 1 (some .int) ∈ WS := ws_t (List.mem_of_getElem? (i := 619) rfl) rfl
theorem im_F_modules : Cond.instanceMethod y_F_modules ∈ WS := ws_t (List.mem_of_getElem? (i := 617) (by decide +kernel)) (by decide +kernel)
theorem se_F_modules : Cond.selects "FaultTreeDesk" y_F_modules y_F_modules ∈ WS := ws_t (List.mem_of_getElem? (i := 618) (by decide +kernel)) (by decide +kernel)
theorem cd_F_modules : y_F_modules.cls = R_F ∧ y_F_modules.cls ≠ "java/lang/invoke/MethodHandle" ∧ y_F_modules.cls ≠ "java/lang/invoke/VarHandle" ∧ (parseMethodDescriptor y_F_modules.desc).map (fun d => d.parameters.length) = some 0 := by decide +kernel
abbrev b_G_moduleSum : ByteArray := prog_4_method_10_code
def y_G_moduleSum : MethodName := ⟨"FaultTreeDesk$Gates", "moduleSum", "(I)I"⟩
def w_G_moduleSum : List Cond := Cond.code y_G_moduleSum b_G_moduleSum 5 (some .int) :: WS
set_option maxRecDepth 100000 in
theorem co_G_moduleSum : Cond.code y_G_moduleSum b_G_moduleSum 5 (some .int) ∈ WS := ws_t (List.mem_of_getElem? (i := 623) rfl) rfl
theorem im_G_moduleSum : Cond.instanceMethod y_G_moduleSum ∈ WS := ws_t (List.mem_of_getElem? (i := 621) (by decide +kernel)) (by decide +kernel)
theorem se_G_moduleSum : Cond.selects "FaultTreeDesk$Gates" y_G_moduleSum y_G_moduleSum ∈ WS := ws_t (List.mem_of_getElem? (i := 622) (by decide +kernel)) (by decide +kernel)
theorem cd_G_moduleSum : y_G_moduleSum.cls = R_G ∧ y_G_moduleSum.cls ≠ "java/lang/invoke/MethodHandle" ∧ y_G_moduleSum.cls ≠ "java/lang/invoke/VarHandle" ∧ (parseMethodDescriptor y_G_moduleSum.desc).map (fun d => d.parameters.length) = some 1 := by decide +kernel
abbrev b_G_standsAlone : ByteArray := prog_4_method_11_code
def y_G_standsAlone : MethodName := ⟨"FaultTreeDesk$Gates", "standsAlone", "(II)Z"⟩
def w_G_standsAlone : List Cond := Cond.code y_G_standsAlone b_G_standsAlone 5 (some .boolean) :: WS
set_option maxRecDepth 100000 in
theorem co_G_standsAlone : Cond.code y_G_standsAlone b_G_standsAlone 5 (some .boolean) ∈ WS := ws_t (List.mem_of_getElem? (i := 627) rfl) rfl
theorem im_G_standsAlone : Cond.instanceMethod y_G_standsAlone ∈ WS := ws_t (List.mem_of_getElem? (i := 626) (by decide +kernel)) (by decide +kernel)
theorem se_G_standsAlone : Cond.selects "FaultTreeDesk$Gates" y_G_standsAlone y_G_standsAlone ∈ WS := ws_p (List.mem_of_getElem? (i := 22) (by decide +kernel)) (by decide +kernel)
theorem cd_G_standsAlone : y_G_standsAlone.cls = R_G ∧ y_G_standsAlone.cls ≠ "java/lang/invoke/MethodHandle" ∧ y_G_standsAlone.cls ≠ "java/lang/invoke/VarHandle" ∧ (parseMethodDescriptor y_G_standsAlone.desc).map (fun d => d.parameters.length) = some 2 := by decide +kernel
abbrev b_M_init : ByteArray := prog_9_method_1_code
def y_M_init : MethodName := ⟨"FaultTreeDeskModel", "<init>", "()V"⟩
def w_M_init : List Cond := Cond.code y_M_init b_M_init 1 none :: WS
set_option maxRecDepth 100000 in
theorem co_M_init : Cond.code y_M_init b_M_init 1 none ∈ WS := ws_t (List.mem_of_getElem? (i := 632) rfl) rfl
theorem im_M_init : Cond.instanceMethod y_M_init ∈ WS := ws_t (List.mem_of_getElem? (i := 631) (by decide +kernel)) (by decide +kernel)
abbrev b_M_thrown : ByteArray := prog_9_method_2_code
def y_M_thrown : MethodName := ⟨"FaultTreeDeskModel", "thrown", "()I"⟩
def w_M_thrown : List Cond := Cond.code y_M_thrown b_M_thrown 1 (some .int) :: WS
set_option maxRecDepth 100000 in
theorem co_M_thrown : Cond.code y_M_thrown b_M_thrown 1 (some .int) ∈ WS := ws_t (List.mem_of_getElem? (i := 696) rfl) rfl
theorem im_M_thrown : Cond.instanceMethod y_M_thrown ∈ WS := ws_t (List.mem_of_getElem? (i := 694) (by decide +kernel)) (by decide +kernel)
theorem se_M_thrown : Cond.selects "FaultTreeDeskModel" y_M_thrown y_M_thrown ∈ WS := ws_t (List.mem_of_getElem? (i := 695) (by decide +kernel)) (by decide +kernel)
theorem cd_M_thrown : y_M_thrown.cls = R_M ∧ y_M_thrown.cls ≠ "java/lang/invoke/MethodHandle" ∧ y_M_thrown.cls ≠ "java/lang/invoke/VarHandle" ∧ (parseMethodDescriptor y_M_thrown.desc).map (fun d => d.parameters.length) = some 0 := by decide +kernel
abbrev b_M_event : ByteArray := prog_9_method_5_code
def y_M_event : MethodName := ⟨"FaultTreeDeskModel", "event", "(I)I"⟩
def w_M_event : List Cond := Cond.code y_M_event b_M_event 2 (some .int) :: WS
set_option maxRecDepth 100000 in
theorem co_M_event : Cond.code y_M_event b_M_event 2 (some .int) ∈ WS := ws_t (List.mem_of_getElem? (i := 700) rfl) rfl
theorem im_M_event : Cond.instanceMethod y_M_event ∈ WS := ws_t (List.mem_of_getElem? (i := 698) (by decide +kernel)) (by decide +kernel)
theorem se_M_event : Cond.selects "FaultTreeDeskModel" y_M_event y_M_event ∈ WS := ws_t (List.mem_of_getElem? (i := 699) (by decide +kernel)) (by decide +kernel)
theorem cd_M_event : y_M_event.cls = R_M ∧ y_M_event.cls ≠ "java/lang/invoke/MethodHandle" ∧ y_M_event.cls ≠ "java/lang/invoke/VarHandle" ∧ (parseMethodDescriptor y_M_event.desc).map (fun d => d.parameters.length) = some 1 := by decide +kernel
abbrev b_M_chance : ByteArray := prog_9_method_6_code
def y_M_chance : MethodName := ⟨"FaultTreeDeskModel", "chance", "(II)I"⟩
def w_M_chance : List Cond := Cond.code y_M_chance b_M_chance 4 (some .int) :: WS
set_option maxRecDepth 100000 in
theorem co_M_chance : Cond.code y_M_chance b_M_chance 4 (some .int) ∈ WS := ws_t (List.mem_of_getElem? (i := 704) rfl) rfl
theorem im_M_chance : Cond.instanceMethod y_M_chance ∈ WS := ws_t (List.mem_of_getElem? (i := 702) (by decide +kernel)) (by decide +kernel)
theorem se_M_chance : Cond.selects "FaultTreeDeskModel" y_M_chance y_M_chance ∈ WS := ws_t (List.mem_of_getElem? (i := 703) (by decide +kernel)) (by decide +kernel)
theorem cd_M_chance : y_M_chance.cls = R_M ∧ y_M_chance.cls ≠ "java/lang/invoke/MethodHandle" ∧ y_M_chance.cls ≠ "java/lang/invoke/VarHandle" ∧ (parseMethodDescriptor y_M_chance.desc).map (fun d => d.parameters.length) = some 2 := by decide +kernel
abbrev b_M_isEvent : ByteArray := prog_9_method_3_code
def y_M_isEvent : MethodName := ⟨"FaultTreeDeskModel", "isEvent", "(I)Z"⟩
def w_M_isEvent : List Cond := Cond.code y_M_isEvent b_M_isEvent 2 (some .boolean) :: WS
set_option maxRecDepth 100000 in
theorem co_M_isEvent : Cond.code y_M_isEvent b_M_isEvent 2 (some .boolean) ∈ WS := ws_t (List.mem_of_getElem? (i := 708) rfl) rfl
theorem im_M_isEvent : Cond.instanceMethod y_M_isEvent ∈ WS := ws_t (List.mem_of_getElem? (i := 707) (by decide +kernel)) (by decide +kernel)
theorem se_M_isEvent : Cond.selects "FaultTreeDeskModel" y_M_isEvent y_M_isEvent ∈ WS := ws_p (List.mem_of_getElem? (i := 23) (by decide +kernel)) (by decide +kernel)
theorem cd_M_isEvent : y_M_isEvent.cls = R_M ∧ y_M_isEvent.cls ≠ "java/lang/invoke/MethodHandle" ∧ y_M_isEvent.cls ≠ "java/lang/invoke/VarHandle" ∧ (parseMethodDescriptor y_M_isEvent.desc).map (fun d => d.parameters.length) = some 1 := by decide +kernel
abbrev b_M_hold : ByteArray := prog_9_method_7_code
def y_M_hold : MethodName := ⟨"FaultTreeDeskModel", "hold", "(II)I"⟩
def w_M_hold : List Cond := Cond.code y_M_hold b_M_hold 4 (some .int) :: WS
set_option maxRecDepth 100000 in
theorem co_M_hold : Cond.code y_M_hold b_M_hold 4 (some .int) ∈ WS := ws_t (List.mem_of_getElem? (i := 712) rfl) rfl
theorem im_M_hold : Cond.instanceMethod y_M_hold ∈ WS := ws_t (List.mem_of_getElem? (i := 710) (by decide +kernel)) (by decide +kernel)
theorem se_M_hold : Cond.selects "FaultTreeDeskModel" y_M_hold y_M_hold ∈ WS := ws_t (List.mem_of_getElem? (i := 711) (by decide +kernel)) (by decide +kernel)
theorem cd_M_hold : y_M_hold.cls = R_M ∧ y_M_hold.cls ≠ "java/lang/invoke/MethodHandle" ∧ y_M_hold.cls ≠ "java/lang/invoke/VarHandle" ∧ (parseMethodDescriptor y_M_hold.desc).map (fun d => d.parameters.length) = some 2 := by decide +kernel
abbrev b_M_gate : ByteArray := prog_9_method_8_code
def y_M_gate : MethodName := ⟨"FaultTreeDeskModel", "gate", "(II)I"⟩
def w_M_gate : List Cond := Cond.code y_M_gate b_M_gate 4 (some .int) :: WS
set_option maxRecDepth 100000 in
theorem co_M_gate : Cond.code y_M_gate b_M_gate 4 (some .int) ∈ WS := ws_t (List.mem_of_getElem? (i := 716) rfl) rfl
theorem im_M_gate : Cond.instanceMethod y_M_gate ∈ WS := ws_t (List.mem_of_getElem? (i := 714) (by decide +kernel)) (by decide +kernel)
theorem se_M_gate : Cond.selects "FaultTreeDeskModel" y_M_gate y_M_gate ∈ WS := ws_t (List.mem_of_getElem? (i := 715) (by decide +kernel)) (by decide +kernel)
theorem cd_M_gate : y_M_gate.cls = R_M ∧ y_M_gate.cls ≠ "java/lang/invoke/MethodHandle" ∧ y_M_gate.cls ≠ "java/lang/invoke/VarHandle" ∧ (parseMethodDescriptor y_M_gate.desc).map (fun d => d.parameters.length) = some 2 := by decide +kernel
abbrev b_M_input : ByteArray := prog_9_method_11_code
def y_M_input : MethodName := ⟨"FaultTreeDeskModel", "input", "(II)I"⟩
def w_M_input : List Cond := Cond.code y_M_input b_M_input 4 (some .int) :: WS
set_option maxRecDepth 100000 in
theorem co_M_input : Cond.code y_M_input b_M_input 4 (some .int) ∈ WS := ws_t (List.mem_of_getElem? (i := 720) rfl) rfl
theorem im_M_input : Cond.instanceMethod y_M_input ∈ WS := ws_t (List.mem_of_getElem? (i := 718) (by decide +kernel)) (by decide +kernel)
theorem se_M_input : Cond.selects "FaultTreeDeskModel" y_M_input y_M_input ∈ WS := ws_t (List.mem_of_getElem? (i := 719) (by decide +kernel)) (by decide +kernel)
theorem cd_M_input : y_M_input.cls = R_M ∧ y_M_input.cls ≠ "java/lang/invoke/MethodHandle" ∧ y_M_input.cls ≠ "java/lang/invoke/VarHandle" ∧ (parseMethodDescriptor y_M_input.desc).map (fun d => d.parameters.length) = some 2 := by decide +kernel
abbrev b_M_isGate : ByteArray := prog_9_method_4_code
def y_M_isGate : MethodName := ⟨"FaultTreeDeskModel", "isGate", "(I)Z"⟩
def w_M_isGate : List Cond := Cond.code y_M_isGate b_M_isGate 2 (some .boolean) :: WS
set_option maxRecDepth 100000 in
theorem co_M_isGate : Cond.code y_M_isGate b_M_isGate 2 (some .boolean) ∈ WS := ws_t (List.mem_of_getElem? (i := 724) rfl) rfl
theorem im_M_isGate : Cond.instanceMethod y_M_isGate ∈ WS := ws_t (List.mem_of_getElem? (i := 723) (by decide +kernel)) (by decide +kernel)
theorem se_M_isGate : Cond.selects "FaultTreeDeskModel" y_M_isGate y_M_isGate ∈ WS := ws_p (List.mem_of_getElem? (i := 24) (by decide +kernel)) (by decide +kernel)
theorem cd_M_isGate : y_M_isGate.cls = R_M ∧ y_M_isGate.cls ≠ "java/lang/invoke/MethodHandle" ∧ y_M_isGate.cls ≠ "java/lang/invoke/VarHandle" ∧ (parseMethodDescriptor y_M_isGate.desc).map (fun d => d.parameters.length) = some 1 := by decide +kernel
abbrev b_M_hasChild : ByteArray := prog_9_method_10_code
def y_M_hasChild : MethodName := ⟨"FaultTreeDeskModel", "hasChild", "(II)Z"⟩
def w_M_hasChild : List Cond := Cond.code y_M_hasChild b_M_hasChild 5 (some .boolean) :: WS
set_option maxRecDepth 100000 in
theorem co_M_hasChild : Cond.code y_M_hasChild b_M_hasChild 5 (some .boolean) ∈ WS := ws_t (List.mem_of_getElem? (i := 728) rfl) rfl
theorem im_M_hasChild : Cond.instanceMethod y_M_hasChild ∈ WS := ws_t (List.mem_of_getElem? (i := 727) (by decide +kernel)) (by decide +kernel)
theorem se_M_hasChild : Cond.selects "FaultTreeDeskModel" y_M_hasChild y_M_hasChild ∈ WS := ws_p (List.mem_of_getElem? (i := 25) (by decide +kernel)) (by decide +kernel)
theorem cd_M_hasChild : y_M_hasChild.cls = R_M ∧ y_M_hasChild.cls ≠ "java/lang/invoke/MethodHandle" ∧ y_M_hasChild.cls ≠ "java/lang/invoke/VarHandle" ∧ (parseMethodDescriptor y_M_hasChild.desc).map (fun d => d.parameters.length) = some 2 := by decide +kernel
abbrev b_M_findBelow : ByteArray := prog_9_method_9_code
def y_M_findBelow : MethodName := ⟨"FaultTreeDeskModel", "findBelow", "()V"⟩
def w_M_findBelow : List Cond := Cond.code y_M_findBelow b_M_findBelow 3 none :: WS
set_option maxRecDepth 100000 in
theorem co_M_findBelow : Cond.code y_M_findBelow b_M_findBelow 3 none ∈ WS := ws_t (List.mem_of_getElem? (i := 732) rfl) rfl
theorem im_M_findBelow : Cond.instanceMethod y_M_findBelow ∈ WS := ws_t (List.mem_of_getElem? (i := 731) (by decide +kernel)) (by decide +kernel)
theorem se_M_findBelow : Cond.selects "FaultTreeDeskModel" y_M_findBelow y_M_findBelow ∈ WS := ws_p (List.mem_of_getElem? (i := 26) (by decide +kernel)) (by decide +kernel)
theorem cd_M_findBelow : y_M_findBelow.cls = R_M ∧ y_M_findBelow.cls ≠ "java/lang/invoke/MethodHandle" ∧ y_M_findBelow.cls ≠ "java/lang/invoke/VarHandle" ∧ (parseMethodDescriptor y_M_findBelow.desc).map (fun d => d.parameters.length) = some 0 := by decide +kernel
abbrev b_M_top : ByteArray := prog_9_method_12_code
def y_M_top : MethodName := ⟨"FaultTreeDeskModel", "top", "(I)V"⟩
def w_M_top : List Cond := Cond.code y_M_top b_M_top 2 none :: WS
set_option maxRecDepth 100000 in
theorem co_M_top : Cond.code y_M_top b_M_top 2 none ∈ WS := ws_t (List.mem_of_getElem? (i := 736) rfl) rfl
theorem im_M_top : Cond.instanceMethod y_M_top ∈ WS := ws_t (List.mem_of_getElem? (i := 734) (by decide +kernel)) (by decide +kernel)
theorem se_M_top : Cond.selects "FaultTreeDeskModel" y_M_top y_M_top ∈ WS := ws_t (List.mem_of_getElem? (i := 735) (by decide +kernel)) (by decide +kernel)
theorem cd_M_top : y_M_top.cls = R_M ∧ y_M_top.cls ≠ "java/lang/invoke/MethodHandle" ∧ y_M_top.cls ≠ "java/lang/invoke/VarHandle" ∧ (parseMethodDescriptor y_M_top.desc).map (fun d => d.parameters.length) = some 1 := by decide +kernel
abbrev b_M_value : ByteArray := prog_9_method_17_code
def y_M_value : MethodName := ⟨"FaultTreeDeskModel", "value", "(I)Z"⟩
def w_M_value : List Cond := Cond.code y_M_value b_M_value 2 (some .boolean) :: WS
set_option maxRecDepth 100000 in
theorem co_M_value : Cond.code y_M_value b_M_value 2 (some .boolean) ∈ WS := ws_t (List.mem_of_getElem? (i := 740) rfl) rfl
theorem im_M_value : Cond.instanceMethod y_M_value ∈ WS := ws_t (List.mem_of_getElem? (i := 738) (by decide +kernel)) (by decide +kernel)
theorem se_M_value : Cond.selects "FaultTreeDeskModel" y_M_value y_M_value ∈ WS := ws_t (List.mem_of_getElem? (i := 739) (by decide +kernel)) (by decide +kernel)
theorem cd_M_value : y_M_value.cls = R_M ∧ y_M_value.cls ≠ "java/lang/invoke/MethodHandle" ∧ y_M_value.cls ≠ "java/lang/invoke/VarHandle" ∧ (parseMethodDescriptor y_M_value.desc).map (fun d => d.parameters.length) = some 1 := by decide +kernel
abbrev b_M_lacks : ByteArray := prog_9_method_16_code
def y_M_lacks : MethodName := ⟨"FaultTreeDeskModel", "lacks", "(I)Z"⟩
def w_M_lacks : List Cond := Cond.code y_M_lacks b_M_lacks 2 (some .boolean) :: WS
set_option maxRecDepth 100000 in
theorem co_M_lacks : Cond.code y_M_lacks b_M_lacks 2 (some .boolean) ∈ WS := ws_t (List.mem_of_getElem? (i := 744) rfl) rfl
theorem im_M_lacks : Cond.instanceMethod y_M_lacks ∈ WS := ws_t (List.mem_of_getElem? (i := 743) (by decide +kernel)) (by decide +kernel)
theorem se_M_lacks : Cond.selects "FaultTreeDeskModel" y_M_lacks y_M_lacks ∈ WS := ws_p (List.mem_of_getElem? (i := 27) (by decide +kernel)) (by decide +kernel)
theorem cd_M_lacks : y_M_lacks.cls = R_M ∧ y_M_lacks.cls ≠ "java/lang/invoke/MethodHandle" ∧ y_M_lacks.cls ≠ "java/lang/invoke/VarHandle" ∧ (parseMethodDescriptor y_M_lacks.desc).map (fun d => d.parameters.length) = some 1 := by decide +kernel
abbrev b_M_work : ByteArray := prog_9_method_15_code
def y_M_work : MethodName := ⟨"FaultTreeDeskModel", "work", "()V"⟩
def w_M_work : List Cond := Cond.code y_M_work b_M_work 6 none :: WS
set_option maxRecDepth 100000 in
theorem co_M_work : Cond.code y_M_work b_M_work 6 none ∈ WS := ws_t (List.mem_of_getElem? (i := 748) rfl) rfl
theorem im_M_work : Cond.instanceMethod y_M_work ∈ WS := ws_t (List.mem_of_getElem? (i := 747) (by decide +kernel)) (by decide +kernel)
theorem se_M_work : Cond.selects "FaultTreeDeskModel" y_M_work y_M_work ∈ WS := ws_p (List.mem_of_getElem? (i := 28) (by decide +kernel)) (by decide +kernel)
theorem cd_M_work : y_M_work.cls = R_M ∧ y_M_work.cls ≠ "java/lang/invoke/MethodHandle" ∧ y_M_work.cls ≠ "java/lang/invoke/VarHandle" ∧ (parseMethodDescriptor y_M_work.desc).map (fun d => d.parameters.length) = some 0 := by decide +kernel
abbrev b_M_sort : ByteArray := prog_9_method_13_code
def y_M_sort : MethodName := ⟨"FaultTreeDeskModel", "sort", "()V"⟩
def w_M_sort : List Cond := Cond.code y_M_sort b_M_sort 6 none :: WS
set_option maxRecDepth 100000 in
theorem co_M_sort : Cond.code y_M_sort b_M_sort 6 none ∈ WS := ws_t (List.mem_of_getElem? (i := 752) rfl) rfl
theorem im_M_sort : Cond.instanceMethod y_M_sort ∈ WS := ws_t (List.mem_of_getElem? (i := 751) (by decide +kernel)) (by decide +kernel)
theorem se_M_sort : Cond.selects "FaultTreeDeskModel" y_M_sort y_M_sort ∈ WS := ws_p (List.mem_of_getElem? (i := 29) (by decide +kernel)) (by decide +kernel)
theorem cd_M_sort : y_M_sort.cls = R_M ∧ y_M_sort.cls ≠ "java/lang/invoke/MethodHandle" ∧ y_M_sort.cls ≠ "java/lang/invoke/VarHandle" ∧ (parseMethodDescriptor y_M_sort.desc).map (fun d => d.parameters.length) = some 0 := by decide +kernel
abbrev b_M_isOn : ByteArray := prog_9_method_14_code
def y_M_isOn : MethodName := ⟨"FaultTreeDeskModel", "isOn", "(II)Z"⟩
def w_M_isOn : List Cond := Cond.code y_M_isOn b_M_isOn 3 (some .boolean) :: WS
set_option maxRecDepth 100000 in
theorem co_M_isOn : Cond.code y_M_isOn b_M_isOn 3 (some .boolean) ∈ WS := ws_t (List.mem_of_getElem? (i := 756) rfl) rfl
theorem im_M_isOn : Cond.instanceMethod y_M_isOn ∈ WS := ws_t (List.mem_of_getElem? (i := 755) (by decide +kernel)) (by decide +kernel)
theorem se_M_isOn : Cond.selects "FaultTreeDeskModel" y_M_isOn y_M_isOn ∈ WS := ws_p (List.mem_of_getElem? (i := 30) (by decide +kernel)) (by decide +kernel)
theorem cd_M_isOn : y_M_isOn.cls = R_M ∧ y_M_isOn.cls ≠ "java/lang/invoke/MethodHandle" ∧ y_M_isOn.cls ≠ "java/lang/invoke/VarHandle" ∧ (parseMethodDescriptor y_M_isOn.desc).map (fun d => d.parameters.length) = some 2 := by decide +kernel
abbrev b_M_odds : ByteArray := prog_9_method_19_code
def y_M_odds : MethodName := ⟨"FaultTreeDeskModel", "odds", "()J"⟩
def w_M_odds : List Cond := Cond.code y_M_odds b_M_odds 1 (some .long) :: WS
set_option maxRecDepth 100000 in
theorem co_M_odds : Cond.code y_M_odds b_M_odds 1 (some .long) ∈ WS := ws_t (List.mem_of_getElem? (i := 760) rfl) rfl
theorem im_M_odds : Cond.instanceMethod y_M_odds ∈ WS := ws_t (List.mem_of_getElem? (i := 758) (by decide +kernel)) (by decide +kernel)
theorem se_M_odds : Cond.selects "FaultTreeDeskModel" y_M_odds y_M_odds ∈ WS := ws_t (List.mem_of_getElem? (i := 759) (by decide +kernel)) (by decide +kernel)
theorem cd_M_odds : y_M_odds.cls = R_M ∧ y_M_odds.cls ≠ "java/lang/invoke/MethodHandle" ∧ y_M_odds.cls ≠ "java/lang/invoke/VarHandle" ∧ (parseMethodDescriptor y_M_odds.desc).map (fun d => d.parameters.length) = some 0 := by decide +kernel
abbrev b_M_sum : ByteArray := prog_9_method_18_code
def y_M_sum : MethodName := ⟨"FaultTreeDeskModel", "sum", "()J"⟩
def w_M_sum : List Cond := Cond.code y_M_sum b_M_sum 9 (some .long) :: WS
set_option maxRecDepth 100000 in
theorem co_M_sum : Cond.code y_M_sum b_M_sum 9 (some .long) ∈ WS := ws_t (List.mem_of_getElem? (i := 764) rfl) rfl
theorem im_M_sum : Cond.instanceMethod y_M_sum ∈ WS := ws_t (List.mem_of_getElem? (i := 763) (by decide +kernel)) (by decide +kernel)
theorem se_M_sum : Cond.selects "FaultTreeDeskModel" y_M_sum y_M_sum ∈ WS := ws_p (List.mem_of_getElem? (i := 31) (by decide +kernel)) (by decide +kernel)
theorem cd_M_sum : y_M_sum.cls = R_M ∧ y_M_sum.cls ≠ "java/lang/invoke/MethodHandle" ∧ y_M_sum.cls ≠ "java/lang/invoke/VarHandle" ∧ (parseMethodDescriptor y_M_sum.desc).map (fun d => d.parameters.length) = some 0 := by decide +kernel
abbrev b_M_digit : ByteArray := prog_9_method_20_code
def y_M_digit : MethodName := ⟨"FaultTreeDeskModel", "digit", "(I)I"⟩
def w_M_digit : List Cond := Cond.code y_M_digit b_M_digit 8 (some .int) :: WS
set_option maxRecDepth 100000 in
theorem co_M_digit : Cond.code y_M_digit b_M_digit 8 (some .int) ∈ WS := ws_t (List.mem_of_getElem? (i := 768) rfl) rfl
theorem im_M_digit : Cond.instanceMethod y_M_digit ∈ WS := ws_t (List.mem_of_getElem? (i := 766) (by decide +kernel)) (by decide +kernel)
theorem se_M_digit : Cond.selects "FaultTreeDeskModel" y_M_digit y_M_digit ∈ WS := ws_t (List.mem_of_getElem? (i := 767) (by decide +kernel)) (by decide +kernel)
theorem cd_M_digit : y_M_digit.cls = R_M ∧ y_M_digit.cls ≠ "java/lang/invoke/MethodHandle" ∧ y_M_digit.cls ≠ "java/lang/invoke/VarHandle" ∧ (parseMethodDescriptor y_M_digit.desc).map (fun d => d.parameters.length) = some 1 := by decide +kernel
abbrev b_M_weight : ByteArray := prog_9_method_21_code
def y_M_weight : MethodName := ⟨"FaultTreeDeskModel", "weight", "(I)J"⟩
def w_M_weight : List Cond := Cond.code y_M_weight b_M_weight 5 (some .long) :: WS
set_option maxRecDepth 100000 in
theorem co_M_weight : Cond.code y_M_weight b_M_weight 5 (some .long) ∈ WS := ws_t (List.mem_of_getElem? (i := 773) rfl) rfl
theorem im_M_weight : Cond.instanceMethod y_M_weight ∈ WS := ws_t (List.mem_of_getElem? (i := 771) (by decide +kernel)) (by decide +kernel)
theorem se_M_weight : Cond.selects "FaultTreeDeskModel" y_M_weight y_M_weight ∈ WS := ws_t (List.mem_of_getElem? (i := 772) (by decide +kernel)) (by decide +kernel)
theorem cd_M_weight : y_M_weight.cls = R_M ∧ y_M_weight.cls ≠ "java/lang/invoke/MethodHandle" ∧ y_M_weight.cls ≠ "java/lang/invoke/VarHandle" ∧ (parseMethodDescriptor y_M_weight.desc).map (fun d => d.parameters.length) = some 1 := by decide +kernel
abbrev b_M_nodes : ByteArray := prog_9_method_24_code
def y_M_nodes : MethodName := ⟨"FaultTreeDeskModel", "nodes", "()I"⟩
def w_M_nodes : List Cond := Cond.code y_M_nodes b_M_nodes 6 (some .int) :: WS
set_option maxRecDepth 100000 in
theorem co_M_nodes : Cond.code y_M_nodes b_M_nodes 6 (some .int) ∈ WS := ws_t (List.mem_of_getElem? (i := 777) rfl) rfl
theorem im_M_nodes : Cond.instanceMethod y_M_nodes ∈ WS := ws_t (List.mem_of_getElem? (i := 775) (by decide +kernel)) (by decide +kernel)
theorem se_M_nodes : Cond.selects "FaultTreeDeskModel" y_M_nodes y_M_nodes ∈ WS := ws_t (List.mem_of_getElem? (i := 776) (by decide +kernel)) (by decide +kernel)
theorem cd_M_nodes : y_M_nodes.cls = R_M ∧ y_M_nodes.cls ≠ "java/lang/invoke/MethodHandle" ∧ y_M_nodes.cls ≠ "java/lang/invoke/VarHandle" ∧ (parseMethodDescriptor y_M_nodes.desc).map (fun d => d.parameters.length) = some 0 := by decide +kernel
abbrev b_M_matters : ByteArray := prog_9_method_23_code
def y_M_matters : MethodName := ⟨"FaultTreeDeskModel", "matters", "(II)Z"⟩
def w_M_matters : List Cond := Cond.code y_M_matters b_M_matters 5 (some .boolean) :: WS
set_option maxRecDepth 100000 in
theorem co_M_matters : Cond.code y_M_matters b_M_matters 5 (some .boolean) ∈ WS := ws_t (List.mem_of_getElem? (i := 781) rfl) rfl
theorem im_M_matters : Cond.instanceMethod y_M_matters ∈ WS := ws_t (List.mem_of_getElem? (i := 780) (by decide +kernel)) (by decide +kernel)
theorem se_M_matters : Cond.selects "FaultTreeDeskModel" y_M_matters y_M_matters ∈ WS := ws_p (List.mem_of_getElem? (i := 32) (by decide +kernel)) (by decide +kernel)
theorem cd_M_matters : y_M_matters.cls = R_M ∧ y_M_matters.cls ≠ "java/lang/invoke/MethodHandle" ∧ y_M_matters.cls ≠ "java/lang/invoke/VarHandle" ∧ (parseMethodDescriptor y_M_matters.desc).map (fun d => d.parameters.length) = some 2 := by decide +kernel
abbrev b_M_alike : ByteArray := prog_9_method_22_code
def y_M_alike : MethodName := ⟨"FaultTreeDeskModel", "alike", "(III)Z"⟩
def w_M_alike : List Cond := Cond.code y_M_alike b_M_alike 6 (some .boolean) :: WS
set_option maxRecDepth 100000 in
theorem co_M_alike : Cond.code y_M_alike b_M_alike 6 (some .boolean) ∈ WS := ws_t (List.mem_of_getElem? (i := 785) rfl) rfl
theorem im_M_alike : Cond.instanceMethod y_M_alike ∈ WS := ws_t (List.mem_of_getElem? (i := 784) (by decide +kernel)) (by decide +kernel)
theorem se_M_alike : Cond.selects "FaultTreeDeskModel" y_M_alike y_M_alike ∈ WS := ws_p (List.mem_of_getElem? (i := 33) (by decide +kernel)) (by decide +kernel)
theorem cd_M_alike : y_M_alike.cls = R_M ∧ y_M_alike.cls ≠ "java/lang/invoke/MethodHandle" ∧ y_M_alike.cls ≠ "java/lang/invoke/VarHandle" ∧ (parseMethodDescriptor y_M_alike.desc).map (fun d => d.parameters.length) = some 3 := by decide +kernel
abbrev b_M_primes : ByteArray := prog_9_method_35_code
def y_M_primes : MethodName := ⟨"FaultTreeDeskModel", "primes", "(I)I"⟩
def w_M_primes : List Cond := Cond.code y_M_primes b_M_primes 4 (some .int) :: WS
set_option maxRecDepth 100000 in
theorem co_M_primes : Cond.code y_M_primes b_M_primes 4 (some .int) ∈ WS := ws_t (List.mem_of_getElem? (i := 789) rfl) rfl
theorem im_M_primes : Cond.instanceMethod y_M_primes ∈ WS := ws_t (List.mem_of_getElem? (i := 787) (by decide +kernel)) (by decide +kernel)
theorem se_M_primes : Cond.selects "FaultTreeDeskModel" y_M_primes y_M_primes ∈ WS := ws_t (List.mem_of_getElem? (i := 788) (by decide +kernel)) (by decide +kernel)
theorem cd_M_primes : y_M_primes.cls = R_M ∧ y_M_primes.cls ≠ "java/lang/invoke/MethodHandle" ∧ y_M_primes.cls ≠ "java/lang/invoke/VarHandle" ∧ (parseMethodDescriptor y_M_primes.desc).map (fun d => d.parameters.length) = some 1 := by decide +kernel
abbrev b_M_fails : ByteArray := prog_9_method_34_code
def y_M_fails : MethodName := ⟨"FaultTreeDeskModel", "fails", "(I)Z"⟩
def w_M_fails : List Cond := Cond.code y_M_fails b_M_fails 2 (some .boolean) :: WS
set_option maxRecDepth 100000 in
theorem co_M_fails : Cond.code y_M_fails b_M_fails 2 (some .boolean) ∈ WS := ws_t (List.mem_of_getElem? (i := 793) rfl) rfl
theorem im_M_fails : Cond.instanceMethod y_M_fails ∈ WS := ws_t (List.mem_of_getElem? (i := 792) (by decide +kernel)) (by decide +kernel)
theorem se_M_fails : Cond.selects "FaultTreeDeskModel" y_M_fails y_M_fails ∈ WS := ws_p (List.mem_of_getElem? (i := 34) (by decide +kernel)) (by decide +kernel)
theorem cd_M_fails : y_M_fails.cls = R_M ∧ y_M_fails.cls ≠ "java/lang/invoke/MethodHandle" ∧ y_M_fails.cls ≠ "java/lang/invoke/VarHandle" ∧ (parseMethodDescriptor y_M_fails.desc).map (fun d => d.parameters.length) = some 1 := by decide +kernel
abbrev b_M_findPrimes : ByteArray := prog_9_method_33_code
def y_M_findPrimes : MethodName := ⟨"FaultTreeDeskModel", "findPrimes", "()Z"⟩
def w_M_findPrimes : List Cond := Cond.code y_M_findPrimes b_M_findPrimes 8 (some .boolean) :: WS
set_option maxRecDepth 100000 in
theorem co_M_findPrimes : Cond.code y_M_findPrimes b_M_findPrimes 8 (some .boolean) ∈ WS := ws_t (List.mem_of_getElem? (i := 797) rfl) rfl
theorem im_M_findPrimes : Cond.instanceMethod y_M_findPrimes ∈ WS := ws_t (List.mem_of_getElem? (i := 796) (by decide +kernel)) (by decide +kernel)
theorem se_M_findPrimes : Cond.selects "FaultTreeDeskModel" y_M_findPrimes y_M_findPrimes ∈ WS := ws_p (List.mem_of_getElem? (i := 35) (by decide +kernel)) (by decide +kernel)
theorem cd_M_findPrimes : y_M_findPrimes.cls = R_M ∧ y_M_findPrimes.cls ≠ "java/lang/invoke/MethodHandle" ∧ y_M_findPrimes.cls ≠ "java/lang/invoke/VarHandle" ∧ (parseMethodDescriptor y_M_findPrimes.desc).map (fun d => d.parameters.length) = some 0 := by decide +kernel
abbrev b_M_power : ByteArray := prog_9_method_25_code
def y_M_power : MethodName := ⟨"FaultTreeDeskModel", "power", "(I)I"⟩
def w_M_power : List Cond := Cond.code y_M_power b_M_power 3 (some .int) :: WS
set_option maxRecDepth 100000 in
theorem co_M_power : Cond.code y_M_power b_M_power 3 (some .int) ∈ WS := ws_t (List.mem_of_getElem? (i := 800) rfl) rfl
theorem sm_M_power : Cond.static y_M_power ∈ WS := ws_t (List.mem_of_getElem? (i := 799) (by decide +kernel)) (by decide +kernel)
theorem ce_M_power : y_M_power.cls ≠ "java/lang/invoke/MethodHandle" ∧ y_M_power.cls ≠ "java/lang/invoke/VarHandle" ∧ (parseMethodDescriptor y_M_power.desc).map (fun d => d.parameters.length) = some 1 := by decide +kernel
theorem cd_M_power : y_M_power.cls = R_M ∧ y_M_power.cls ≠ "java/lang/invoke/MethodHandle" ∧ y_M_power.cls ≠ "java/lang/invoke/VarHandle" ∧ (parseMethodDescriptor y_M_power.desc).map (fun d => d.parameters.length) = some 1 := by decide +kernel
abbrev b_M_settingOf : ByteArray := prog_9_method_27_code
def y_M_settingOf : MethodName := ⟨"FaultTreeDeskModel", "settingOf", "(I)I"⟩
def w_M_settingOf : List Cond := Cond.code y_M_settingOf b_M_settingOf 5 (some .int) :: WS
set_option maxRecDepth 100000 in
theorem co_M_settingOf : Cond.code y_M_settingOf b_M_settingOf 5 (some .int) ∈ WS := ws_t (List.mem_of_getElem? (i := 804) rfl) rfl
theorem im_M_settingOf : Cond.instanceMethod y_M_settingOf ∈ WS := ws_t (List.mem_of_getElem? (i := 803) (by decide +kernel)) (by decide +kernel)
theorem se_M_settingOf : Cond.selects "FaultTreeDeskModel" y_M_settingOf y_M_settingOf ∈ WS := ws_p (List.mem_of_getElem? (i := 36) (by decide +kernel)) (by decide +kernel)
theorem cd_M_settingOf : y_M_settingOf.cls = R_M ∧ y_M_settingOf.cls ≠ "java/lang/invoke/MethodHandle" ∧ y_M_settingOf.cls ≠ "java/lang/invoke/VarHandle" ∧ (parseMethodDescriptor y_M_settingOf.desc).map (fun d => d.parameters.length) = some 1 := by decide +kernel
abbrev b_M_isCause : ByteArray := prog_9_method_26_code
def y_M_isCause : MethodName := ⟨"FaultTreeDeskModel", "isCause", "(I)Z"⟩
def w_M_isCause : List Cond := Cond.code y_M_isCause b_M_isCause 2 (some .boolean) :: WS
set_option maxRecDepth 100000 in
theorem co_M_isCause : Cond.code y_M_isCause b_M_isCause 2 (some .boolean) ∈ WS := ws_t (List.mem_of_getElem? (i := 808) rfl) rfl
theorem im_M_isCause : Cond.instanceMethod y_M_isCause ∈ WS := ws_t (List.mem_of_getElem? (i := 807) (by decide +kernel)) (by decide +kernel)
theorem se_M_isCause : Cond.selects "FaultTreeDeskModel" y_M_isCause y_M_isCause ∈ WS := ws_p (List.mem_of_getElem? (i := 37) (by decide +kernel)) (by decide +kernel)
theorem cd_M_isCause : y_M_isCause.cls = R_M ∧ y_M_isCause.cls ≠ "java/lang/invoke/MethodHandle" ∧ y_M_isCause.cls ≠ "java/lang/invoke/VarHandle" ∧ (parseMethodDescriptor y_M_isCause.desc).map (fun d => d.parameters.length) = some 1 := by decide +kernel
abbrev b_M_isPrime : ByteArray := prog_9_method_28_code
def y_M_isPrime : MethodName := ⟨"FaultTreeDeskModel", "isPrime", "(I)Z"⟩
def w_M_isPrime : List Cond := Cond.code y_M_isPrime b_M_isPrime 7 (some .boolean) :: WS
set_option maxRecDepth 100000 in
theorem co_M_isPrime : Cond.code y_M_isPrime b_M_isPrime 7 (some .boolean) ∈ WS := ws_t (List.mem_of_getElem? (i := 813) rfl) rfl
theorem im_M_isPrime : Cond.instanceMethod y_M_isPrime ∈ WS := ws_t (List.mem_of_getElem? (i := 812) (by decide +kernel)) (by decide +kernel)
theorem se_M_isPrime : Cond.selects "FaultTreeDeskModel" y_M_isPrime y_M_isPrime ∈ WS := ws_p (List.mem_of_getElem? (i := 38) (by decide +kernel)) (by decide +kernel)
theorem cd_M_isPrime : y_M_isPrime.cls = R_M ∧ y_M_isPrime.cls ≠ "java/lang/invoke/MethodHandle" ∧ y_M_isPrime.cls ≠ "java/lang/invoke/VarHandle" ∧ (parseMethodDescriptor y_M_isPrime.desc).map (fun d => d.parameters.length) = some 1 := by decide +kernel
abbrev b_M_eventsOf : ByteArray := prog_9_method_29_code
def y_M_eventsOf : MethodName := ⟨"FaultTreeDeskModel", "eventsOf", "(II)I"⟩
def w_M_eventsOf : List Cond := Cond.code y_M_eventsOf b_M_eventsOf 6 (some .int) :: WS
set_option maxRecDepth 100000 in
theorem co_M_eventsOf : Cond.code y_M_eventsOf b_M_eventsOf 6 (some .int) ∈ WS := ws_t (List.mem_of_getElem? (i := 817) rfl) rfl
theorem im_M_eventsOf : Cond.instanceMethod y_M_eventsOf ∈ WS := ws_t (List.mem_of_getElem? (i := 816) (by decide +kernel)) (by decide +kernel)
theorem se_M_eventsOf : Cond.selects "FaultTreeDeskModel" y_M_eventsOf y_M_eventsOf ∈ WS := ws_p (List.mem_of_getElem? (i := 39) (by decide +kernel)) (by decide +kernel)
theorem cd_M_eventsOf : y_M_eventsOf.cls = R_M ∧ y_M_eventsOf.cls ≠ "java/lang/invoke/MethodHandle" ∧ y_M_eventsOf.cls ≠ "java/lang/invoke/VarHandle" ∧ (parseMethodDescriptor y_M_eventsOf.desc).map (fun d => d.parameters.length) = some 2 := by decide +kernel
abbrev b_M_keep : ByteArray := prog_9_method_32_code
def y_M_keep : MethodName := ⟨"FaultTreeDeskModel", "keep", "(II)V"⟩
def w_M_keep : List Cond := Cond.code y_M_keep b_M_keep 4 none :: WS
set_option maxRecDepth 100000 in
theorem co_M_keep : Cond.code y_M_keep b_M_keep 4 none ∈ WS := ws_t (List.mem_of_getElem? (i := 821) rfl) rfl
theorem im_M_keep : Cond.instanceMethod y_M_keep ∈ WS := ws_t (List.mem_of_getElem? (i := 820) (by decide +kernel)) (by decide +kernel)
theorem se_M_keep : Cond.selects "FaultTreeDeskModel" y_M_keep y_M_keep ∈ WS := ws_p (List.mem_of_getElem? (i := 40) (by decide +kernel)) (by decide +kernel)
theorem cd_M_keep : y_M_keep.cls = R_M ∧ y_M_keep.cls ≠ "java/lang/invoke/MethodHandle" ∧ y_M_keep.cls ≠ "java/lang/invoke/VarHandle" ∧ (parseMethodDescriptor y_M_keep.desc).map (fun d => d.parameters.length) = some 2 := by decide +kernel
abbrev b_M_isBefore : ByteArray := prog_9_method_31_code
def y_M_isBefore : MethodName := ⟨"FaultTreeDeskModel", "isBefore", "(IIII)Z"⟩
def w_M_isBefore : List Cond := Cond.code y_M_isBefore b_M_isBefore 5 (some .boolean) :: WS
set_option maxRecDepth 100000 in
theorem co_M_isBefore : Cond.code y_M_isBefore b_M_isBefore 5 (some .boolean) ∈ WS := ws_t (List.mem_of_getElem? (i := 824) rfl) rfl
theorem sm_M_isBefore : Cond.static y_M_isBefore ∈ WS := ws_t (List.mem_of_getElem? (i := 823) (by decide +kernel)) (by decide +kernel)
theorem ce_M_isBefore : y_M_isBefore.cls ≠ "java/lang/invoke/MethodHandle" ∧ y_M_isBefore.cls ≠ "java/lang/invoke/VarHandle" ∧ (parseMethodDescriptor y_M_isBefore.desc).map (fun d => d.parameters.length) = some 4 := by decide +kernel
theorem cd_M_isBefore : y_M_isBefore.cls = R_M ∧ y_M_isBefore.cls ≠ "java/lang/invoke/MethodHandle" ∧ y_M_isBefore.cls ≠ "java/lang/invoke/VarHandle" ∧ (parseMethodDescriptor y_M_isBefore.desc).map (fun d => d.parameters.length) = some 4 := by decide +kernel
abbrev b_M_size : ByteArray := prog_9_method_30_code
def y_M_size : MethodName := ⟨"FaultTreeDeskModel", "size", "(I)I"⟩
def w_M_size : List Cond := Cond.code y_M_size b_M_size 3 (some .int) :: WS
set_option maxRecDepth 100000 in
theorem co_M_size : Cond.code y_M_size b_M_size 3 (some .int) ∈ WS := ws_t (List.mem_of_getElem? (i := 827) rfl) rfl
theorem sm_M_size : Cond.static y_M_size ∈ WS := ws_t (List.mem_of_getElem? (i := 826) (by decide +kernel)) (by decide +kernel)
theorem ce_M_size : y_M_size.cls ≠ "java/lang/invoke/MethodHandle" ∧ y_M_size.cls ≠ "java/lang/invoke/VarHandle" ∧ (parseMethodDescriptor y_M_size.desc).map (fun d => d.parameters.length) = some 1 := by decide +kernel
theorem cd_M_size : y_M_size.cls = R_M ∧ y_M_size.cls ≠ "java/lang/invoke/MethodHandle" ∧ y_M_size.cls ≠ "java/lang/invoke/VarHandle" ∧ (parseMethodDescriptor y_M_size.desc).map (fun d => d.parameters.length) = some 1 := by decide +kernel
abbrev b_M_prime : ByteArray := prog_9_method_36_code
def y_M_prime : MethodName := ⟨"FaultTreeDeskModel", "prime", "(II)I"⟩
def w_M_prime : List Cond := Cond.code y_M_prime b_M_prime 3 (some .int) :: WS
set_option maxRecDepth 100000 in
theorem co_M_prime : Cond.code y_M_prime b_M_prime 3 (some .int) ∈ WS := ws_t (List.mem_of_getElem? (i := 831) rfl) rfl
theorem im_M_prime : Cond.instanceMethod y_M_prime ∈ WS := ws_t (List.mem_of_getElem? (i := 829) (by decide +kernel)) (by decide +kernel)
theorem se_M_prime : Cond.selects "FaultTreeDeskModel" y_M_prime y_M_prime ∈ WS := ws_t (List.mem_of_getElem? (i := 830) (by decide +kernel)) (by decide +kernel)
theorem cd_M_prime : y_M_prime.cls = R_M ∧ y_M_prime.cls ≠ "java/lang/invoke/MethodHandle" ∧ y_M_prime.cls ≠ "java/lang/invoke/VarHandle" ∧ (parseMethodDescriptor y_M_prime.desc).map (fun d => d.parameters.length) = some 2 := by decide +kernel
abbrev b_M_share : ByteArray := prog_9_method_37_code
def y_M_share : MethodName := ⟨"FaultTreeDeskModel", "share", "(I)I"⟩
def w_M_share : List Cond := Cond.code y_M_share b_M_share 4 (some .int) :: WS
set_option maxRecDepth 100000 in
theorem co_M_share : Cond.code y_M_share b_M_share 4 (some .int) ∈ WS := ws_t (List.mem_of_getElem? (i := 835) rfl) rfl
theorem im_M_share : Cond.instanceMethod y_M_share ∈ WS := ws_t (List.mem_of_getElem? (i := 833) (by decide +kernel)) (by decide +kernel)
theorem se_M_share : Cond.selects "FaultTreeDeskModel" y_M_share y_M_share ∈ WS := ws_t (List.mem_of_getElem? (i := 834) (by decide +kernel)) (by decide +kernel)
theorem cd_M_share : y_M_share.cls = R_M ∧ y_M_share.cls ≠ "java/lang/invoke/MethodHandle" ∧ y_M_share.cls ≠ "java/lang/invoke/VarHandle" ∧ (parseMethodDescriptor y_M_share.desc).map (fun d => d.parameters.length) = some 1 := by decide +kernel
abbrev b_M_modules : ByteArray := prog_9_method_39_code
def y_M_modules : MethodName := ⟨"FaultTreeDeskModel", "modules", "()I"⟩
def w_M_modules : List Cond := Cond.code y_M_modules b_M_modules 7 (some .int) :: WS
set_option maxRecDepth 100000 in
theorem co_M_modules : Cond.code y_M_modules b_M_modules 7 (some .int) ∈ WS := ws_t (List.mem_of_getElem? (i := 839) rfl) rfl
theorem im_M_modules : Cond.instanceMethod y_M_modules ∈ WS := ws_t (List.mem_of_getElem? (i := 837) (by decide +kernel)) (by decide +kernel)
theorem se_M_modules : Cond.selects "FaultTreeDeskModel" y_M_modules y_M_modules ∈ WS := ws_t (List.mem_of_getElem? (i := 838) (by decide +kernel)) (by decide +kernel)
theorem cd_M_modules : y_M_modules.cls = R_M ∧ y_M_modules.cls ≠ "java/lang/invoke/MethodHandle" ∧ y_M_modules.cls ≠ "java/lang/invoke/VarHandle" ∧ (parseMethodDescriptor y_M_modules.desc).map (fun d => d.parameters.length) = some 0 := by decide +kernel
abbrev b_M_isUnder : ByteArray := prog_9_method_38_code
def y_M_isUnder : MethodName := ⟨"FaultTreeDeskModel", "isUnder", "(II)Z"⟩
def w_M_isUnder : List Cond := Cond.code y_M_isUnder b_M_isUnder 5 (some .boolean) :: WS
set_option maxRecDepth 100000 in
theorem co_M_isUnder : Cond.code y_M_isUnder b_M_isUnder 5 (some .boolean) ∈ WS := ws_t (List.mem_of_getElem? (i := 843) rfl) rfl
theorem im_M_isUnder : Cond.instanceMethod y_M_isUnder ∈ WS := ws_t (List.mem_of_getElem? (i := 842) (by decide +kernel)) (by decide +kernel)
theorem se_M_isUnder : Cond.selects "FaultTreeDeskModel" y_M_isUnder y_M_isUnder ∈ WS := ws_p (List.mem_of_getElem? (i := 41) (by decide +kernel)) (by decide +kernel)
theorem cd_M_isUnder : y_M_isUnder.cls = R_M ∧ y_M_isUnder.cls ≠ "java/lang/invoke/MethodHandle" ∧ y_M_isUnder.cls ≠ "java/lang/invoke/VarHandle" ∧ (parseMethodDescriptor y_M_isUnder.desc).map (fun d => d.parameters.length) = some 2 := by decide +kernel
theorem ml_F_62 : Cond.methodLink "FaultTreeDesk" 62 y_F_needChance ∈ WS := ws_t (List.mem_of_getElem? (i := 196) (by decide +kernel)) (by decide +kernel)
theorem ml_F_76 : Cond.methodLink "FaultTreeDesk" 76 y_F_forgetAnswers ∈ WS := ws_t (List.mem_of_getElem? (i := 285) (by decide +kernel)) (by decide +kernel)
theorem ml_F_79 : Cond.methodLink "FaultTreeDesk" 79 y_E_add ∈ WS := ws_t (List.mem_of_getElem? (i := 289) (by decide +kernel)) (by decide +kernel)
theorem ml_F_83 : Cond.methodLink "FaultTreeDesk" 83 y_F_needEvent ∈ WS := ws_t (List.mem_of_getElem? (i := 300) (by decide +kernel)) (by decide +kernel)
theorem ml_F_111 : Cond.methodLink "FaultTreeDesk" 111 y_E_has ∈ WS := ws_t (List.mem_of_getElem? (i := 304) (by decide +kernel)) (by decide +kernel)
theorem ml_F_105 : Cond.methodLink "FaultTreeDesk" 105 y_G_add ∈ WS := ws_t (List.mem_of_getElem? (i := 327) (by decide +kernel)) (by decide +kernel)
theorem ml_F_108 : Cond.methodLink "FaultTreeDesk" 108 y_F_needGate ∈ WS := ws_t (List.mem_of_getElem? (i := 339) (by decide +kernel)) (by decide +kernel)
theorem ml_F_199 : Cond.methodLink "FaultTreeDesk" 199 y_G_has ∈ WS := ws_t (List.mem_of_getElem? (i := 343) (by decide +kernel)) (by decide +kernel)
theorem ml_F_115 : Cond.methodLink "FaultTreeDesk" 115 y_G_hasCode ∈ WS := ws_t (List.mem_of_getElem? (i := 348) (by decide +kernel)) (by decide +kernel)
theorem ml_F_120 : Cond.methodLink "FaultTreeDesk" 120 y_G_isChild ∈ WS := ws_t (List.mem_of_getElem? (i := 353) (by decide +kernel)) (by decide +kernel)
theorem ml_F_124 : Cond.methodLink "FaultTreeDesk" 124 y_G_isFull ∈ WS := ws_t (List.mem_of_getElem? (i := 357) (by decide +kernel)) (by decide +kernel)
theorem ml_G_28 : Cond.methodLink "FaultTreeDesk$Gates" 28 y_JI_bitCount ∈ WS := ws_t (List.mem_of_getElem? (i := 361) (by decide +kernel)) (by decide +kernel)
theorem ml_F_129 : Cond.methodLink "FaultTreeDesk" 129 y_G_wouldLoop ∈ WS := ws_t (List.mem_of_getElem? (i := 368) (by decide +kernel)) (by decide +kernel)
theorem ml_G_34 : Cond.methodLink "FaultTreeDesk$Gates" 34 y_G_withBelow ∈ WS := ws_t (List.mem_of_getElem? (i := 372) (by decide +kernel)) (by decide +kernel)
theorem ml_F_137 : Cond.methodLink "FaultTreeDesk" 137 y_G_join ∈ WS := ws_t (List.mem_of_getElem? (i := 392) (by decide +kernel)) (by decide +kernel)
theorem ml_F_140 : Cond.methodLink "FaultTreeDesk" 140 y_F_needTop ∈ WS := ws_t (List.mem_of_getElem? (i := 410) (by decide +kernel)) (by decide +kernel)
theorem ml_F_143 : Cond.methodLink "FaultTreeDesk" 143 y_F_freshenTruth ∈ WS := ws_t (List.mem_of_getElem? (i := 415) (by decide +kernel)) (by decide +kernel)
theorem ml_F_159 : Cond.methodLink "FaultTreeDesk" 159 y_T_fill ∈ WS := ws_t (List.mem_of_getElem? (i := 419) (by decide +kernel)) (by decide +kernel)
theorem ml_T_35 : Cond.methodLink "FaultTreeDesk$Truth" 35 Lib.Math.max.name ∈ WS := ws_t (List.mem_of_getElem? (i := 423) (by decide +kernel)) (by decide +kernel)
theorem ml_T_44 : Cond.methodLink "FaultTreeDesk$Truth" 44 y_T_fillEvent ∈ WS := ws_t (List.mem_of_getElem? (i := 426) (by decide +kernel)) (by decide +kernel)
theorem ml_T_48 : Cond.methodLink "FaultTreeDesk$Truth" 48 y_T_fillGates ∈ WS := ws_t (List.mem_of_getElem? (i := 433) (by decide +kernel)) (by decide +kernel)
theorem ml_T_58 : Cond.methodLink "FaultTreeDesk$Truth" 58 y_G_withBelow ∈ WS := ws_t (List.mem_of_getElem? (i := 437) (by decide +kernel)) (by decide +kernel)
theorem ml_T_68 : Cond.methodLink "FaultTreeDesk$Truth" 68 y_T_fillGate ∈ WS := ws_t (List.mem_of_getElem? (i := 438) (by decide +kernel)) (by decide +kernel)
theorem ml_T_75 : Cond.methodLink "FaultTreeDesk$Truth" 75 y_T_listInputs ∈ WS := ws_t (List.mem_of_getElem? (i := 442) (by decide +kernel)) (by decide +kernel)
theorem ml_T_81 : Cond.methodLink "FaultTreeDesk$Truth" 81 y_T_oddWord ∈ WS := ws_t (List.mem_of_getElem? (i := 446) (by decide +kernel)) (by decide +kernel)
theorem ml_T_85 : Cond.methodLink "FaultTreeDesk$Truth" 85 y_T_atLeastWord ∈ WS := ws_t (List.mem_of_getElem? (i := 450) (by decide +kernel)) (by decide +kernel)
theorem ml_F_146 : Cond.methodLink "FaultTreeDesk" 146 y_T_isTrue ∈ WS := ws_t (List.mem_of_getElem? (i := 454) (by decide +kernel)) (by decide +kernel)
theorem ml_F_149 : Cond.methodLink "FaultTreeDesk" 149 y_O_total ∈ WS := ws_t (List.mem_of_getElem? (i := 465) (by decide +kernel)) (by decide +kernel)
theorem ml_O_21 : Cond.methodLink "FaultTreeDesk$Odds" 21 y_T_isTrue ∈ WS := ws_t (List.mem_of_getElem? (i := 469) (by decide +kernel)) (by decide +kernel)
theorem ml_F_155 : Cond.methodLink "FaultTreeDesk" 155 y_O_decimal ∈ WS := ws_t (List.mem_of_getElem? (i := 478) (by decide +kernel)) (by decide +kernel)
theorem ml_F_163 : Cond.methodLink "FaultTreeDesk" 163 y_D_countNodes ∈ WS := ws_t (List.mem_of_getElem? (i := 497) (by decide +kernel)) (by decide +kernel)
theorem ml_D_22 : Cond.methodLink "FaultTreeDesk$Diagram" 22 y_T_isTrue ∈ WS := ws_t (List.mem_of_getElem? (i := 501) (by decide +kernel)) (by decide +kernel)
theorem ml_D_28 : Cond.methodLink "FaultTreeDesk$Diagram" 28 y_D_numberOf ∈ WS := ws_t (List.mem_of_getElem? (i := 502) (by decide +kernel)) (by decide +kernel)
theorem ml_F_169 : Cond.methodLink "FaultTreeDesk" 169 y_F_needTerms ∈ WS := ws_t (List.mem_of_getElem? (i := 514) (by decide +kernel)) (by decide +kernel)
theorem ml_F_204 : Cond.methodLink "FaultTreeDesk" 204 y_X_find ∈ WS := ws_t (List.mem_of_getElem? (i := 518) (by decide +kernel)) (by decide +kernel)
theorem ml_X_40 : Cond.methodLink "FaultTreeDesk$Terms" 40 y_X_walk ∈ WS := ws_t (List.mem_of_getElem? (i := 522) (by decide +kernel)) (by decide +kernel)
theorem ml_X_51 : Cond.methodLink "FaultTreeDesk$Terms" 51 y_X_collect ∈ WS := ws_t (List.mem_of_getElem? (i := 526) (by decide +kernel)) (by decide +kernel)
theorem ml_X_69 : Cond.methodLink "FaultTreeDesk$Terms" 69 y_X_allKeptOrOff ∈ WS := ws_t (List.mem_of_getElem? (i := 530) (by decide +kernel)) (by decide +kernel)
theorem ml_X_73 : Cond.methodLink "FaultTreeDesk$Terms" 73 y_X_primeSettings ∈ WS := ws_t (List.mem_of_getElem? (i := 536) (by decide +kernel)) (by decide +kernel)
theorem ml_X_55 : Cond.methodLink "FaultTreeDesk$Terms" 55 y_X_flipped ∈ WS := ws_t (List.mem_of_getElem? (i := 540) (by decide +kernel)) (by decide +kernel)
theorem ml_X_77 : Cond.methodLink "FaultTreeDesk$Terms" 77 y_X_addAll ∈ WS := ws_t (List.mem_of_getElem? (i := 544) (by decide +kernel)) (by decide +kernel)
theorem ml_X_83 : Cond.methodLink "FaultTreeDesk$Terms" 83 y_JL_bitCount ∈ WS := ws_t (List.mem_of_getElem? (i := 548) (by decide +kernel)) (by decide +kernel)
theorem ml_X_89 : Cond.methodLink "FaultTreeDesk$Terms" 89 y_JI_bitCount ∈ WS := ws_t (List.mem_of_getElem? (i := 554) (by decide +kernel)) (by decide +kernel)
theorem ml_X_93 : Cond.methodLink "FaultTreeDesk$Terms" 93 y_X_insert ∈ WS := ws_t (List.mem_of_getElem? (i := 555) (by decide +kernel)) (by decide +kernel)
theorem ml_F_172 : Cond.methodLink "FaultTreeDesk" 172 y_X_countUpTo ∈ WS := ws_t (List.mem_of_getElem? (i := 563) (by decide +kernel)) (by decide +kernel)
theorem ml_F_183 : Cond.methodLink "FaultTreeDesk" 183 y_X_onOf ∈ WS := ws_t (List.mem_of_getElem? (i := 592) (by decide +kernel)) (by decide +kernel)
theorem ml_F_186 : Cond.methodLink "FaultTreeDesk" 186 y_X_offOf ∈ WS := ws_t (List.mem_of_getElem? (i := 596) (by decide +kernel)) (by decide +kernel)
theorem ml_F_189 : Cond.methodLink "FaultTreeDesk" 189 y_X_countWith ∈ WS := ws_t (List.mem_of_getElem? (i := 607) (by decide +kernel)) (by decide +kernel)
theorem ml_X_44 : Cond.methodLink "FaultTreeDesk$Terms" 44 y_X_onOf ∈ WS := ws_t (List.mem_of_getElem? (i := 611) (by decide +kernel)) (by decide +kernel)
theorem ml_X_48 : Cond.methodLink "FaultTreeDesk$Terms" 48 y_X_offOf ∈ WS := ws_t (List.mem_of_getElem? (i := 612) (by decide +kernel)) (by decide +kernel)
theorem ml_F_192 : Cond.methodLink "FaultTreeDesk" 192 y_G_moduleSum ∈ WS := ws_t (List.mem_of_getElem? (i := 620) (by decide +kernel)) (by decide +kernel)
theorem ml_G_37 : Cond.methodLink "FaultTreeDesk$Gates" 37 y_G_standsAlone ∈ WS := ws_t (List.mem_of_getElem? (i := 624) (by decide +kernel)) (by decide +kernel)
theorem ml_M_67 : Cond.methodLink "FaultTreeDeskModel" 67 y_M_isEvent ∈ WS := ws_t (List.mem_of_getElem? (i := 705) (by decide +kernel)) (by decide +kernel)
theorem ml_M_71 : Cond.methodLink "FaultTreeDeskModel" 71 y_M_isGate ∈ WS := ws_t (List.mem_of_getElem? (i := 721) (by decide +kernel)) (by decide +kernel)
theorem ml_M_74 : Cond.methodLink "FaultTreeDeskModel" 74 y_M_hasChild ∈ WS := ws_t (List.mem_of_getElem? (i := 725) (by decide +kernel)) (by decide +kernel)
theorem ml_M_78 : Cond.methodLink "FaultTreeDeskModel" 78 y_M_findBelow ∈ WS := ws_t (List.mem_of_getElem? (i := 729) (by decide +kernel)) (by decide +kernel)
theorem ml_M_90 : Cond.methodLink "FaultTreeDeskModel" 90 y_M_lacks ∈ WS := ws_t (List.mem_of_getElem? (i := 741) (by decide +kernel)) (by decide +kernel)
theorem ml_M_87 : Cond.methodLink "FaultTreeDeskModel" 87 y_M_work ∈ WS := ws_t (List.mem_of_getElem? (i := 745) (by decide +kernel)) (by decide +kernel)
theorem ml_M_81 : Cond.methodLink "FaultTreeDeskModel" 81 y_M_sort ∈ WS := ws_t (List.mem_of_getElem? (i := 749) (by decide +kernel)) (by decide +kernel)
theorem ml_M_84 : Cond.methodLink "FaultTreeDeskModel" 84 y_M_isOn ∈ WS := ws_t (List.mem_of_getElem? (i := 753) (by decide +kernel)) (by decide +kernel)
theorem ml_M_93 : Cond.methodLink "FaultTreeDeskModel" 93 y_M_sum ∈ WS := ws_t (List.mem_of_getElem? (i := 761) (by decide +kernel)) (by decide +kernel)
theorem ml_M_99 : Cond.methodLink "FaultTreeDeskModel" 99 y_M_matters ∈ WS := ws_t (List.mem_of_getElem? (i := 778) (by decide +kernel)) (by decide +kernel)
theorem ml_M_102 : Cond.methodLink "FaultTreeDeskModel" 102 y_M_alike ∈ WS := ws_t (List.mem_of_getElem? (i := 782) (by decide +kernel)) (by decide +kernel)
theorem ml_M_143 : Cond.methodLink "FaultTreeDeskModel" 143 y_M_fails ∈ WS := ws_t (List.mem_of_getElem? (i := 790) (by decide +kernel)) (by decide +kernel)
theorem ml_M_139 : Cond.methodLink "FaultTreeDeskModel" 139 y_M_findPrimes ∈ WS := ws_t (List.mem_of_getElem? (i := 794) (by decide +kernel)) (by decide +kernel)
theorem ml_M_120 : Cond.methodLink "FaultTreeDeskModel" 120 y_M_power ∈ WS := ws_t (List.mem_of_getElem? (i := 798) (by decide +kernel)) (by decide +kernel)
theorem ml_M_123 : Cond.methodLink "FaultTreeDeskModel" 123 y_M_settingOf ∈ WS := ws_t (List.mem_of_getElem? (i := 801) (by decide +kernel)) (by decide +kernel)
theorem ml_M_106 : Cond.methodLink "FaultTreeDeskModel" 106 y_M_isCause ∈ WS := ws_t (List.mem_of_getElem? (i := 805) (by decide +kernel)) (by decide +kernel)
theorem ml_M_128 : Cond.methodLink "FaultTreeDeskModel" 128 y_M_isPrime ∈ WS := ws_t (List.mem_of_getElem? (i := 810) (by decide +kernel)) (by decide +kernel)
theorem ml_M_131 : Cond.methodLink "FaultTreeDeskModel" 131 y_M_eventsOf ∈ WS := ws_t (List.mem_of_getElem? (i := 814) (by decide +kernel)) (by decide +kernel)
theorem ml_M_135 : Cond.methodLink "FaultTreeDeskModel" 135 y_M_keep ∈ WS := ws_t (List.mem_of_getElem? (i := 818) (by decide +kernel)) (by decide +kernel)
theorem ml_M_116 : Cond.methodLink "FaultTreeDeskModel" 116 y_M_isBefore ∈ WS := ws_t (List.mem_of_getElem? (i := 822) (by decide +kernel)) (by decide +kernel)
theorem ml_M_109 : Cond.methodLink "FaultTreeDeskModel" 109 y_M_size ∈ WS := ws_t (List.mem_of_getElem? (i := 825) (by decide +kernel)) (by decide +kernel)
theorem ml_M_146 : Cond.methodLink "FaultTreeDeskModel" 146 y_M_isUnder ∈ WS := ws_t (List.mem_of_getElem? (i := 840) (by decide +kernel)) (by decide +kernel)
end
section
/-! more rules: ldc_w, switches -/
def R_JI : String := "java/lang/Integer"
def R_JL : String := "java/lang/Long"
section AW
variable {p : Program} {l : Launch} {e : Env} {R : Room} {s : State} {m : MethodId} {args : Array Value} {below : List Frame} {meth : Method} {c : Code} {cells slots : Nat} {Q : State → Prop}
variable {D : va_G} {cl : List vw_C} {ca : Nat → Nat} {A : Nat → Prop} {ad : Nat → Nat} {cc : ByteArray} {nL : Nat} {own : String} {Ts : List Cond}
variable {pc : Nat} {L L' : List (Option Value)} {st : List Value} {w w' : List va_E}
theorem av_ldcw (K : av_K p s m args meth c D cl ca A cc nL own Ts) {index : Nat} {v : Int32} (hc : Cond.constant own index v ∈ Ts) (hd : decode cc pc = .ok (.ldc_w index, 3)) (k : av_V p l e R s m args below meth c D cl A ad ca nL Q cells slots (pc + 3) L (.int v :: st) w) : av_V p l e R s m args below meth c D cl A ad ca nL Q cells slots pc L st w := fun H locs ls hP hD hS hL => lv_ldcw K.1 K.2.1 K.2.2.2.1 (K.2.2.2.2.1 _ hc) hd (k H locs ls hP hD hS hL)
theorem av_tswI (K : av_K p s m args meth c D cl ca A cc nL own Ts) {dflt lo hi : Int} {offs : Array Int} {len : Nat} {x : Int32} {off : Int} {tgt : Nat} (hd : decode cc pc = .ok (.tableswitch dflt lo hi offs, len)) (h1 : ¬ x.toInt < lo) (h2 : ¬ hi < x.toInt) (ho : offs[(x.toInt - lo).toNat]? = some off) (ht : (pc : Int) + off = (tgt : Int)) (k : av_V p l e R s m args below meth c D cl A ad ca nL Q cells slots tgt L st w) : av_V p l e R s m args below meth c D cl A ad ca nL Q cells slots pc L (.int x :: st) w := fun H locs ls hP hD hS hL => lv_tableIn K.1 K.2.1 hd h1 h2 ho ht (k H locs ls hP hD hS hL)
theorem av_tswO (K : av_K p s m args meth c D cl ca A cc nL own Ts) {dflt lo hi : Int} {offs : Array Int} {len : Nat} {x : Int32} {tgt : Nat} (hd : decode cc pc = .ok (.tableswitch dflt lo hi offs, len)) (h : x.toInt < lo ∨ hi < x.toInt) (ht : (pc : Int) + dflt = (tgt : Int)) (k : av_V p l e R s m args below meth c D cl A ad ca nL Q cells slots tgt L st w) : av_V p l e R s m args below meth c D cl A ad ca nL Q cells slots pc L (.int x :: st) w := fun H locs ls hP hD hS hL => lv_tableOut K.1 K.2.1 hd h ht (k H locs ls hP hD hS hL)
end AW
theorem tsw_4 {x : Int32} (h0 : ¬ x = 0) (h1 : ¬ x = 1) (h2 : ¬ x = 2) (h3 : ¬ x = 3) : x.toInt < 0 ∨ 3 < x.toInt := by
  rcases pk_ix x (n := 4) (by decide) with h | h | ⟨j, hj, rfl⟩
  · exact Or.inl (by rw [Int32.lt_iff_toInt_lt] at h; simpa using h)
  · refine Or.inr ?_
    rw [Int32.le_iff_toInt_le, nI_toInt (by decide)] at h
    omega
  · match j, hj with
    | 0, _ => exact absurd rfl h0
    | 1, _ => exact absurd rfl h1
    | 2, _ => exact absurd rfl h2
    | 3, _ => exact absurd rfl h3
    | k + 4, h => exact absurd h (by omega)
end
section
/-! System.arraycopy between long arrays -/
def hp_cp (w : List va_E) (q0 : Nat) (sp : Int32) (q1 : Nat) (dp n : Int32) : Option (List va_E) := match w[q0]?, w[q1]? with
  | some (.inl (c0, n0, .inr (.inl f))), some (.inl (c1, n1, .inr (.inl g))) => if c0 = 1 ∧ c1 = 1 ∧ ¬ sp < 0 ∧ ¬ dp < 0 ∧ ¬ n < 0 ∧ sp.toNatClampNeg + n.toNatClampNeg ≤ n0 ∧ dp.toNatClampNeg + n.toNatClampNeg ≤ n1 then some (w.set q1 (.inl (c1, n1, .inr (.inl (va_cpy f g sp.toNatClampNeg dp.toNatClampNeg n.toNatClampNeg))))) else none
  | _, _ => none
theorem hp_cp_of {w w' : List va_E} {q0 q1 : Nat} {sp dp n : Int32} (h : hp_cp w q0 sp q1 dp n = some w') : ∃ n0 n1 f g, w[q0]? = some (.inl (1, n0, .inr (.inl f))) ∧ w[q1]? = some (.inl (1, n1, .inr (.inl g))) ∧ ¬ sp < 0 ∧ ¬ dp < 0 ∧ ¬ n < 0 ∧ sp.toNatClampNeg + n.toNatClampNeg ≤ n0 ∧ dp.toNatClampNeg + n.toNatClampNeg ≤ n1 ∧ w.set q1 (.inl (1, n1, .inr (.inl (va_cpy f g sp.toNatClampNeg dp.toNatClampNeg n.toNatClampNeg)))) = w' := by
  unfold hp_cp at h
  split at h
  · rename_i c0 n0 f c1 n1 g h0 h1
    split at h
    · rename_i hc
      obtain ⟨hc0, hc1, r⟩ := hc
      subst hc0
      subst hc1
      exact ⟨n0, n1, f, g, h0, h1, r.1, r.2.1, r.2.2.1, r.2.2.2.1, r.2.2.2.2, Option.some.inj h⟩
    · cases h
  · cases h
section AY
variable {p : Program} {l : Launch} {e : Env} {R : Room} {s : State} {m : MethodId} {args : Array Value} {below : List Frame} {meth : Method} {c : Code} {cells slots : Nat} {Q : State → Prop}
variable {D : va_G} {cl : List vw_C} {ca : Nat → Nat} {A : Nat → Prop} {ad : Nat → Nat} {cc : ByteArray} {nL : Nat} {own : String} {Ts : List Cond}
variable {pc : Nat} {L L' : List (Option Value)} {st : List Value} {w w' : List va_E}
theorem av_cp (K : av_K p s m args meth c D cl ca A cc nL own Ts) {index q0 q1 : Nat} {sp dp n : Int32} (hl : Cond.methodLink own index arraycopyName ∈ Ts) (hn : Cond.native arraycopyName ∈ Ts) (hs : Cond.static arraycopyName ∈ Ts) (hi : Cond.initialized "java/lang/System" ∈ Ts) (hf : 1 ≤ R.frames) (hlo : (st.map Value.category).sum + (nativeFrameWords "java/lang/System" "arraycopy" 5 + 11) ≤ R.locals) (hd : decode cc pc = .ok (.invokestatic index, 3)) (h : hp_cp w q0 sp q1 dp n = some w') (k : av_V p l e R s m args below meth c D cl A ad ca nL Q cells slots (pc + 3) L st w') : av_V p l e R s m args below meth c D cl A ad ca nL Q cells slots pc L (.int n :: .int dp :: .ref q1 :: .int sp :: .ref q0 :: st) w := fun H locs ls hP hD hS hL => by
  obtain ⟨n0, n1, f, g, h0, h1, a1, a2, a3, a4, a5, hw⟩ := hp_cp_of h
  have e1 : (ax_W ad ca w).set q1 (ad q1, .inl (ca 1, n1, .inr (.inl (va_cpy f g sp.toNatClampNeg dp.toNatClampNeg n.toNatClampNeg)))) = ax_W ad ca w' := by
    rw [← hw, ← ax_W_set]; rfl
  refine va_copyl K.1 K.2.1 (K.2.2.1.trans hL.1.symm) K.2.2.2.1 (K.2.2.2.2.1 _ hl) (K.2.2.2.2.1 _ hn) (K.2.2.2.2.1 _ hs) (K.2.2.2.2.1 _ hi) K.2.2.2.2.2.1 hP hD hS q0 q1 1 1 (ax_W_at h0) (ax_W_at h1) rfl rfl rfl a1 a2 a3 a4 a5 (fun i _ => rfl) hf (by rw [List.map_map]; simpa [Function.comp_def, ax_v_cat] using hlo) hd (fun H1 locs1 hP1 hD1 hS1 => ?_)
  rw [e1] at hP1 hD1
  exact k H1 locs1 ls hP1 hD1 hS1 hL
end AY
theorem ml_cp : Cond.methodLink R_X 59 arraycopyName ∈ WS := ws_t (List.mem_of_getElem? (i := 559) (by decide +kernel)) (by decide +kernel)
theorem sm_cp : Cond.static arraycopyName ∈ WS := ws_t (List.mem_of_getElem? (i := 560) (by decide +kernel)) (by decide +kernel)
theorem nm_cp : Cond.native arraycopyName ∈ WS := ws_t (List.mem_of_getElem? (i := 561) (by decide +kernel)) (by decide +kernel)
theorem in_SY : Cond.initialized "java/lang/System" ∈ WS := ws_t (List.mem_of_getElem? (i := 18) (by decide +kernel)) (by decide +kernel)
end
section
/-! methods that may throw: the world stays, a class name comes out -/
def EXN : List String := ["java/lang/IllegalArgumentException", "java/lang/IllegalStateException", "java/lang/UnsupportedOperationException", "java/lang/IndexOutOfBoundsException"]
def EXU : List String := ["java/lang/RuntimeException", "java/lang/Exception"]
def STR : List (Nat × String) := [(195, "no such chance"), (71, "no room for another event"), (197, "no such event"), (92, "no such way to hold"), (98, "no such kind"), (100, "no such k for the kind"), (103, "no room for another gate"), (200, "no such gate"), (118, "no such child"), (127, "the gate has it, or no room"), (134, "the gate would be below itself"), (202, "there is no top"), (153, "no such decimal"), (167, "no such number of events"), (211, "too many prime terms"), (175, "neither on nor off"), (180, "no such prime term")]
def av_X (A : Nat → Prop) (U : State) (H : Heap) : Prop := (∀ E ∈ EXN, va_Nw (.castable E E) U) ∧ (∀ q ∈ STR, ∃ sa, vk_R "FaultTreeDesk" q.1 q.2 sa U) ∧ vx_Zq Bundle.tN "UNASSIGNED_STACK" Bundle.steD A U H ∧ vx_Zq Bundle.tN "SUPPRESSED_SENTINEL" Bundle.listD A U H
theorem av_X.to {A B : Nat → Prop} {s U : State} {H H1 : Heap} (h : av_X A s H) (hW : s.WarmedH U.vm) (hq : ∀ a : Nat, a < H.size → ¬ A a → H1[a]? = H[a]?) (hAB : ∀ q, B q → A q) : av_X B U H1 :=
  ⟨fun E hE => va_Nw.warmC hW (h.1 E hE), fun q hq => (h.2.1 q hq).imp fun sa hs => hs.warm hW, ((vx_Zq.moved hW.alike h.2.2.1).kept hq).narrow hAB, ((vx_Zq.moved hW.alike h.2.2.2).kept hq).narrow hAB⟩
theorem av_X.calling {A : Nat → Prop} {U : State} {g : JFrame} {mk : MethodId} {a : Array Value} (h : av_X A U U.heap) : av_X A (U.calling g mk a) (U.calling g mk a).heap :=
  ⟨fun E hE => va_Nw.same (u := U) (U := U.calling g mk a) rfl rfl (h.1 E hE), fun q hq => (h.2.1 q hq).imp fun sa hs => vk_R.same (u := U) (U := U.calling g mk a) rfl hs, vx_Zq.moved (u := U) (U := U.calling g mk a) (Vm.Alike.refl U.vm) h.2.2.1, vx_Zq.moved (u := U) (U := U.calling g mk a) (Vm.Alike.refl U.vm) h.2.2.2⟩
def av_PreX (D : va_G) (cl : List vw_C) (ca : Nat → Nat) (Ns : List Cond) (tab : Nat → Int64) (ad : Nat → Nat) (w : List va_E) (sz : Nat) (U : State) : Prop := av_Pre D cl ca Ns tab ad w sz U ∧ av_X (va_A (ax_W ad ca w) sz) U U.heap
theorem av_blindX {D : va_G} {cl : List vw_C} {ca : Nat → Nat} {Ns : List Cond} {tab : Nat → Int64} {ad : Nat → Nat} {w : List va_E} {sz : Nat} {av : List Value} : FrameBlind (va_Pc av (av_PreX D cl ca Ns tab ad w sz)) :=
  fun a U g mk q => ⟨q.1, (av_blind a U g mk ⟨q.1, q.2.1⟩).2, q.2.2.calling⟩
def av_BX (D : va_G) (cl : List vw_C) (ad ca : Nat → Nat) (A : Nat → Prop) (xp : String → List va_E → Prop) : String → State → State → Prop := vx_X (fun _ : List va_E => True) (fun E u t => xp E u ∧ av_B D cl ad ca A u t) A
def av_Xi (l : Launch) (D : va_G) (cl : List vw_C) (ca : Nat → Nat) (Ns : List Cond) (tab : Nat → Int64) (y : MethodName) (ws : List Cond) (rm : Room) (mc ms : Nat) (as : List Value) (w : List va_E) (post : Int32 → List va_E → Prop) (xp : String → List va_E → Prop) : Prop :=
  ∀ (ad : Nat → Nat) (sz : Nat), vx_Met l y ws rm (va_Pc (as.map (ax_v ad)) (av_PreX D cl ca Ns tab ad w sz)) (va_Qi post (av_B D cl ad ca (va_A (ax_W ad ca w) sz)) (va_A (ax_W ad ca w) sz)) (av_BX D cl ad ca (va_A (ax_W ad ca w) sz) xp) mc ms (va_A (ax_W ad ca w) sz)
def av_Xl (l : Launch) (D : va_G) (cl : List vw_C) (ca : Nat → Nat) (Ns : List Cond) (tab : Nat → Int64) (y : MethodName) (ws : List Cond) (rm : Room) (mc ms : Nat) (as : List Value) (w : List va_E) (post : Int64 → List va_E → Prop) (xp : String → List va_E → Prop) : Prop :=
  ∀ (ad : Nat → Nat) (sz : Nat), vx_Met l y ws rm (va_Pc (as.map (ax_v ad)) (av_PreX D cl ca Ns tab ad w sz)) (va_Ql post (av_B D cl ad ca (va_A (ax_W ad ca w) sz)) (va_A (ax_W ad ca w) sz)) (av_BX D cl ad ca (va_A (ax_W ad ca w) sz) xp) mc ms (va_A (ax_W ad ca w) sz)
def av_Xv (l : Launch) (D : va_G) (cl : List vw_C) (ca : Nat → Nat) (Ns : List Cond) (tab : Nat → Int64) (y : MethodName) (ws : List Cond) (rm : Room) (mc ms : Nat) (as : List Value) (w : List va_E) (post : List va_E → Prop) (xp : String → List va_E → Prop) : Prop :=
  ∀ (ad : Nat → Nat) (sz : Nat), vx_Met l y ws rm (va_Pc (as.map (ax_v ad)) (av_PreX D cl ca Ns tab ad w sz)) (va_Qv post (av_B D cl ad ca (va_A (ax_W ad ca w) sz)) (va_A (ax_W ad ca w) sz)) (av_BX D cl ad ca (va_A (ax_W ad ca w) sz) xp) mc ms (va_A (ax_W ad ca w) sz)
/-- calls of what may throw, in the pure text -/
def hx_bd {α β : Type} (o : Option ((String ⊕ α) × List va_E)) (k : α → List va_E → Option ((String ⊕ β) × List va_E)) : Option ((String ⊕ β) × List va_E) := o.bind fun r => match r with
  | (.inl E, u) => some (.inl E, u)
  | (.inr v, u) => k v u
theorem hx_of {α β : Type} {o : Option ((String ⊕ α) × List va_E)} {k : α → List va_E → Option ((String ⊕ β) × List va_E)} {R : (String ⊕ β) × List va_E} (h : hx_bd o k = some R) : ∃ r, o = some r ∧ (∀ E u, r = (.inl E, u) → R = (.inl E, u)) ∧ ∀ v u, r = (.inr v, u) → k v u = some R := by
  unfold hx_bd at h
  cases o with
  | none => cases h
  | some r =>
    refine ⟨r, rfl, fun E u hr => ?_, fun v u hr => ?_⟩
    · subst hr; exact (Option.some.inj h).symm
    · subst hr; exact h
section AXC
variable {l : Launch} {D : va_G} {cl : List vw_C} {ca : Nat → Nat} {Ns : List Cond} {tab : Nat → Int64}
theorem av_inXI {y : MethodName} {ws ws' : List Cond} {rm : Room} {mc ms : Nat} {as : List Value} {w : List va_E} {post : Int32 → List va_E → Prop} {xp : String → List va_E → Prop} {cc : ByteArray} {nL : Nat} {ty : FieldType} (hy : plainName y.cls = true) (hw : ws = Cond.code y cc nL (some ty) :: ws') (hn : (ax_ar as).length ≤ nL)
    (h : ∀ (p : Program) (e : Env) (s : State) (m : MethodId) (args : Array Value) (below : List Frame) (meth : Method) (c : Code) (A : Nat → Prop) (ad : Nat → Nat), av_K p s m args meth c D cl ca A cc nL y.cls ws' → av_G Ns tab A s s.heap → av_X A s s.heap → (∀ x ∈ c.exceptionTable.toList, False) → meth.sig.returnType = some ty →
      av_V p l e rm s m args below meth c D cl A ad ca nL (vx_MQ below (va_Qi post (av_B D cl ad ca A) A) (av_BX D cl ad ca A xp) args s mc ms A) 0 0 0 (ax_en nL as) [] w) : av_Xi l D cl ca Ns tab y ws rm mc ms as w post xp := by
  intro ad sz
  refine vx_ofW (cc := cc) (maxL := nL) (ret := some ty) hy hw ?_
  intro p e s m args below meth c s₁ B hml hx hv
  obtain ⟨rfl, ⟨hsz, hP, hK, hD0, hG⟩, hX⟩ := hv
  subst hsz
  have hts := atoms_spec (ws := ws) B.pre
  have hD := hD0.self (sz := s.heap.size)
  generalize hAe : va_A (ax_W ad ca w) s.heap.size = A at hD hG hX ⊢
  have hA : ∀ q : Nat, s.heap.size ≤ q → A q := fun q h => by rw [← hAe]; exact Or.inr h
  rw [lg_entry_eq]
  exact h p e s m _ below meth c A ad ⟨B.exec, B.bytes, hml, findClass_of_methodNamed B.named, fun w h9 => hts w (by rw [hw]; exact List.mem_cons_of_mem _ h9), hK, hA, B.notSynchronized⟩ hG hX hx B.returns s.heap [] _ hP hD va_S.rf (ax_L.en ad as hn)
theorem av_inXL {y : MethodName} {ws ws' : List Cond} {rm : Room} {mc ms : Nat} {as : List Value} {w : List va_E} {post : Int64 → List va_E → Prop} {xp : String → List va_E → Prop} {cc : ByteArray} {nL : Nat} {ty : FieldType} (hy : plainName y.cls = true) (hw : ws = Cond.code y cc nL (some ty) :: ws') (hn : (ax_ar as).length ≤ nL)
    (h : ∀ (p : Program) (e : Env) (s : State) (m : MethodId) (args : Array Value) (below : List Frame) (meth : Method) (c : Code) (A : Nat → Prop) (ad : Nat → Nat), av_K p s m args meth c D cl ca A cc nL y.cls ws' → av_G Ns tab A s s.heap → av_X A s s.heap → (∀ x ∈ c.exceptionTable.toList, False) → meth.sig.returnType = some ty →
      av_V p l e rm s m args below meth c D cl A ad ca nL (vx_MQ below (va_Ql post (av_B D cl ad ca A) A) (av_BX D cl ad ca A xp) args s mc ms A) 0 0 0 (ax_en nL as) [] w) : av_Xl l D cl ca Ns tab y ws rm mc ms as w post xp := by
  intro ad sz
  refine vx_ofW (cc := cc) (maxL := nL) (ret := some ty) hy hw ?_
  intro p e s m args below meth c s₁ B hml hx hv
  obtain ⟨rfl, ⟨hsz, hP, hK, hD0, hG⟩, hX⟩ := hv
  subst hsz
  have hts := atoms_spec (ws := ws) B.pre
  have hD := hD0.self (sz := s.heap.size)
  generalize hAe : va_A (ax_W ad ca w) s.heap.size = A at hD hG hX ⊢
  have hA : ∀ q : Nat, s.heap.size ≤ q → A q := fun q h => by rw [← hAe]; exact Or.inr h
  rw [lg_entry_eq]
  exact h p e s m _ below meth c A ad ⟨B.exec, B.bytes, hml, findClass_of_methodNamed B.named, fun w h9 => hts w (by rw [hw]; exact List.mem_cons_of_mem _ h9), hK, hA, B.notSynchronized⟩ hG hX hx B.returns s.heap [] _ hP hD va_S.rf (ax_L.en ad as hn)
theorem av_inXV {y : MethodName} {ws ws' : List Cond} {rm : Room} {mc ms : Nat} {as : List Value} {w : List va_E} {post : List va_E → Prop} {xp : String → List va_E → Prop} {cc : ByteArray} {nL : Nat} (hy : plainName y.cls = true) (hw : ws = Cond.code y cc nL none :: ws') (hn : (ax_ar as).length ≤ nL)
    (h : ∀ (p : Program) (e : Env) (s : State) (m : MethodId) (args : Array Value) (below : List Frame) (meth : Method) (c : Code) (A : Nat → Prop) (ad : Nat → Nat), av_K p s m args meth c D cl ca A cc nL y.cls ws' → av_G Ns tab A s s.heap → av_X A s s.heap → (∀ x ∈ c.exceptionTable.toList, False) → meth.sig.returnType = none →
      av_V p l e rm s m args below meth c D cl A ad ca nL (vx_MQ below (va_Qv post (av_B D cl ad ca A) A) (av_BX D cl ad ca A xp) args s mc ms A) 0 0 0 (ax_en nL as) [] w) : av_Xv l D cl ca Ns tab y ws rm mc ms as w post xp := by
  intro ad sz
  refine vx_ofW (cc := cc) (maxL := nL) (ret := none) hy hw ?_
  intro p e s m args below meth c s₁ B hml hx hv
  obtain ⟨rfl, ⟨hsz, hP, hK, hD0, hG⟩, hX⟩ := hv
  subst hsz
  have hts := atoms_spec (ws := ws) B.pre
  have hD := hD0.self (sz := s.heap.size)
  generalize hAe : va_A (ax_W ad ca w) s.heap.size = A at hD hG hX ⊢
  have hA : ∀ q : Nat, s.heap.size ≤ q → A q := fun q h => by rw [← hAe]; exact Or.inr h
  rw [lg_entry_eq]
  exact h p e s m _ below meth c A ad ⟨B.exec, B.bytes, hml, findClass_of_methodNamed B.named, fun w h9 => hts w (by rw [hw]; exact List.mem_cons_of_mem _ h9), hK, hA, B.notSynchronized⟩ hG hX hx B.returns s.heap [] _ hP hD va_S.rf (ax_L.en ad as hn)
variable {p : Program} {e : Env} {R : Room} {s : State} {m : MethodId} {args : Array Value} {below : List Frame} {meth : Method} {c : Code} {cells slots mc ms : Nat} {Q : State → Prop}
variable {A : Nat → Prop} {ad : Nat → Nat} {cc : ByteArray} {nL : Nat} {own : String} {Ts : List Cond}
variable {pc : Nat} {L L' : List (Option Value)} {st st0 : List Value} {w w' : List va_E}
/-- at most so many cells have come -/
theorem av_wd {k n : Nat} (h1 : cells ≤ k) (h2 : slots ≤ n) (kk : av_V p l e R s m args below meth c D cl A ad ca nL Q k n pc L st w) : av_V p l e R s m args below meth c D cl A ad ca nL Q cells slots pc L st w :=
  fun H locs ls hP hD hS hL => W.widen h1 h2 (kk H locs ls hP hD hS hL)
theorem av_xret {Qc : Array Value → State → Outcome → State → Prop} {XC : String → State → State → Prop} (kk : av_V p l e R s m args below meth c D cl A ad ca nL (MQ below Qc args s mc ms A) mc ms pc L st w) (h1 : cells ≤ mc) (h2 : slots ≤ ms) : av_V p l e R s m args below meth c D cl A ad ca nL (vx_MQ below Qc XC args s mc ms A) cells slots pc L st w :=
  fun H locs ls hP hD hS hL => W.widen h1 h2 (vx_ret (kk H locs ls hP hD hS hL))
theorem av_pout (K : av_K p s m args meth c D cl ca A cc nL own Ts) (hx : ∀ x ∈ c.exceptionTable.toList, False) {Qc : Array Value → State → Outcome → State → Prop} {xp : String → List va_E → Prop} {E : String} {ce : Cell} {q9 : Addr} {H : Heap} {locs : List Loc} {ls : Array Slot} {rest : List Value} (hP : va_P D cl (ax_W ad ca w) H) (hD : va_D A (ax_W ad ca w)) (hS : va_S A s.heap H locs) (hce : H[q9]? = some ce) (hv : ce.vm = .none) (hcl : s.vm.findClass E = some ce.cls) (hp : xp E w) (h1 : cells ≤ mc) (h2 : slots ≤ ms) : vx_W p l e R s m args below meth c H locs cells slots (vx_MQ below Qc (av_BX D cl ad ca A xp) args s mc ms A) (F0 m pc ls rest) q9 :=
  vx_out (fun x h => (hx x h).elim) K.2.2.2.2.2.2.2 hce hv hcl (fun t ht ha => ⟨w, trivial, ⟨hp, by rw [ht]; exact hP, hD⟩, hS.F ht⟩) hS.2.2 h1 h2
theorem av_preX (K : av_K p s m args meth c D cl ca A cc nL own Ts) (G : av_G Ns tab A s s.heap) (X : av_X A s s.heap) {H : Heap} {locs : List Loc} (hP : va_P D cl (ax_W ad ca w) H) (hD : va_D A (ax_W ad ca w)) (hS : va_S A s.heap H locs) (av : List Value) : PreS s H (va_Pc (av.map (ax_v ad)) (av_PreX D cl ca Ns tab ad w H.size)) (av.map (ax_v ad)) :=
  ⟨av_blindX, fun U hU hW => ⟨rfl, ((av_pre K G hP hD hS av).2 U hU hW).2, by rw [hU]; exact X.to hW (fun a h1 h2 => hS.2.1 a h1 h2) (av_sub K hD hS)⟩⟩
theorem av_xVi (K : av_K p s m args meth c D cl ca A cc nL own Ts) (G : av_G Ns tab A s s.heap) (X : av_X A s s.heap) (hx : ∀ x ∈ c.exceptionTable.toList, False) {y : MethodName} {ws1 : List Cond} {rm : Room} {bytes : ByteArray} {maxL index n q ci m1 n1 : Nat} {ret : Option FieldType} {C : String} {T : u_T} {N : Nat} {fs As : List Value} {post : Int32 → List va_E → Prop} {xq xp : String → List va_E → Prop} {Qc : Array Value → State → Outcome → State → Prop} (cal : av_Xi l D cl ca Ns tab y ws1 rm m1 n1 (.ref q :: As) w post xq) (cw : CallW R s args own C index y bytes maxL ret ws1 rm m1 n1 n)
    (hc : cl[ci]? = some (C, T, N)) (he : w[q]? = some (.inr (ci, fs))) (hn : As.length = n) (hst : As.reverse ++ .ref q :: st = st0) (hroom : (st.map Value.category).sum ≤ 8) (hd : decode cc pc = .ok (.invokevirtual index, 3)) (hf : cells + m1 ≤ R.cells ∧ slots + n1 ≤ R.slots) (h1 : cells + m1 ≤ mc) (h2 : slots + n1 ≤ ms) (hxp : ∀ E u, xq E u → xp E u)
    (k : ∀ r w', post r w' → av_V p l e R s m args below meth c D cl A ad ca nL (vx_MQ below Qc (av_BX D cl ad ca A xp) args s mc ms A) (cells + m1) (slots + n1) (pc + 3) L (.int r :: st) w') : av_V p l e R s m args below meth c D cl A ad ca nL (vx_MQ below Qc (av_BX D cl ad ca A xp) args s mc ms A) cells slots pc L st0 w := by
  intro H locs ls hP hD hS hL
  subst hst
  have hFc := av_sub K hD hS
  have hpr := av_preX K G X hP hD hS (.ref q :: As)
  refine vx_calli (vx_runV (As := As.map (ax_v ad)) (rest := st.map (ax_v ad)) ⟨K.1, K.2.1, K.2.2.1, K.2.2.2.1, K.2.2.2.2.1⟩ (cal ad H.size) cw ⟨hpr.1, va_recv K.2.2.2.2.2.1 hP hc (ax_W_at he), hpr.2⟩ rfl (by rw [List.length_map]; exact hn) hL.1 (by simp [ax_v]) (lv_room (by rw [List.map_map]; simpa [Function.comp_def, ax_v_cat] using hroom)) hd hf) hS (fun q _ h => hFc q h) hFc (fun q _ h => hFc q h) (fun E ce q9 u t H1 locs1 ht hvm _ hB hz1 hk1 hS1 hce hv hcl => ?_) (fun r w' t H1 locs1 ht hvm hp hB hz1 hk1 hS1 => ?_)
  · obtain ⟨hq, hP1, hD1⟩ := hB
    rw [ht] at hP1
    exact av_pout K hx hP1 (hD1.weaken (fun _ q _ h => hFc q.1 h)) hS1 hce hv hcl (hxp E u hq) h1 h2
  · obtain ⟨hP1, hD1⟩ := hB
    rw [ht] at hP1
    exact k r w' hp H1 locs1 ls hP1 (hD1.weaken (fun _ q _ h => hFc q.1 h)) hS1 hL
theorem av_xVv (K : av_K p s m args meth c D cl ca A cc nL own Ts) (G : av_G Ns tab A s s.heap) (X : av_X A s s.heap) (hx : ∀ x ∈ c.exceptionTable.toList, False) {y : MethodName} {ws1 : List Cond} {rm : Room} {bytes : ByteArray} {maxL index n q ci m1 n1 : Nat} {ret : Option FieldType} {C : String} {T : u_T} {N : Nat} {fs As : List Value} {post : List va_E → Prop} {xq xp : String → List va_E → Prop} {Qc : Array Value → State → Outcome → State → Prop} (cal : av_Xv l D cl ca Ns tab y ws1 rm m1 n1 (.ref q :: As) w post xq) (cw : CallW R s args own C index y bytes maxL ret ws1 rm m1 n1 n)
    (hc : cl[ci]? = some (C, T, N)) (he : w[q]? = some (.inr (ci, fs))) (hn : As.length = n) (hst : As.reverse ++ .ref q :: st = st0) (hroom : (st.map Value.category).sum ≤ 8) (hd : decode cc pc = .ok (.invokevirtual index, 3)) (hf : cells + m1 ≤ R.cells ∧ slots + n1 ≤ R.slots) (h1 : cells + m1 ≤ mc) (h2 : slots + n1 ≤ ms) (hxp : ∀ E u, xq E u → xp E u)
    (k : ∀ w', post w' → av_V p l e R s m args below meth c D cl A ad ca nL (vx_MQ below Qc (av_BX D cl ad ca A xp) args s mc ms A) (cells + m1) (slots + n1) (pc + 3) L st w') : av_V p l e R s m args below meth c D cl A ad ca nL (vx_MQ below Qc (av_BX D cl ad ca A xp) args s mc ms A) cells slots pc L st0 w := by
  intro H locs ls hP hD hS hL
  subst hst
  have hFc := av_sub K hD hS
  have hpr := av_preX K G X hP hD hS (.ref q :: As)
  refine vx_callv (vx_runV (As := As.map (ax_v ad)) (rest := st.map (ax_v ad)) ⟨K.1, K.2.1, K.2.2.1, K.2.2.2.1, K.2.2.2.2.1⟩ (cal ad H.size) cw ⟨hpr.1, va_recv K.2.2.2.2.2.1 hP hc (ax_W_at he), hpr.2⟩ rfl (by rw [List.length_map]; exact hn) hL.1 (by simp [ax_v]) (lv_room (by rw [List.map_map]; simpa [Function.comp_def, ax_v_cat] using hroom)) hd hf) hS (fun q _ h => hFc q h) hFc (fun q _ h => hFc q h) (fun E ce q9 u t H1 locs1 ht hvm _ hB hz1 hk1 hS1 hce hv hcl => ?_) (fun w' t H1 locs1 ht hvm hp hB hz1 hk1 hS1 => ?_)
  · obtain ⟨hq, hP1, hD1⟩ := hB
    rw [ht] at hP1
    exact av_pout K hx hP1 (hD1.weaken (fun _ q _ h => hFc q.1 h)) hS1 hce hv hcl (hxp E u hq) h1 h2
  · obtain ⟨hP1, hD1⟩ := hB
    rw [ht] at hP1
    exact k w' hp H1 locs1 ls hP1 (hD1.weaken (fun _ q _ h => hFc q.1 h)) hS1 hL
/-- new, dup, ldc, <init>, athrow -/
theorem av_throw (K : av_K p s m args meth c D cl ca A cc nL own Ts) (X : av_X A s s.heap) (hx : ∀ x ∈ c.exceptionTable.toList, False) (hl : l.stackTraces = false) {cls text : String} {ik is ic : Nat} (hco : own = "FaultTreeDesk") (hcls : cls ∈ EXN) (hs9 : (is, text) ∈ STR)
    (hk : Cond.classLink own ik cls ∈ Ts) (hini : Cond.initialized cls ∈ Ts) (hat1 : ∀ w ∈ (vx_atS own ic cls EXU).filter goodWord, w ∈ Ts) (hat2 : ∀ w ∈ (vx_atS own ic cls EXU).filter (fun w => !goodWord w), w ∈ [Cond.castable cls cls]) (hgood : ∀ w ∈ Cond.classLink own ik cls :: Cond.initialized cls :: vx_atS own ic cls EXU, vx_ot w = true) (hfit : Bundle.fit cls = true ∧ ∀ n ∈ EXU, Bundle.fit n = true)
    (d0 : decode cc pc = .ok (.new ik, 3)) (d3 : decode cc (pc + 3) = .ok (.dup, 1)) (d4 : decode cc (pc + 4) = .ok (.ldc is, 2)) (d6 : decode cc (pc + 6) = .ok (.invokespecial ic, 3)) (d9 : decode cc (pc + 9) = .ok (.athrow, 1))
    {Qc : Array Value → State → Outcome → State → Prop} {xp : String → List va_E → Prop} (hRf : 5 < R.frames) (hRl : (st.map Value.category).sum + 82 ≤ R.locals) (hRc : cells + 1 ≤ R.cells) (hRs : slots + 6 ≤ R.slots) (h1 : cells + 1 ≤ mc) (h2 : slots + 6 ≤ ms) (hp : xp cls w) :
    av_V p l e R s m args below meth c D cl A ad ca nL (vx_MQ below Qc (av_BX D cl ad ca A xp) args s mc ms A) cells slots pc L st w := by
  intro H locs ls hP hD hS hL
  obtain ⟨sa, hsa⟩ := X.2.1 _ hs9
  subst hco
  refine vx_throwS (names := EXU) K.1 K.2.1 hl K.2.2.2.1 hfit.1 hfit.2 (K.2.2.2.2.1 _ hk) (K.2.2.2.2.1 _ hini) hsa (vx_hat (fun w hw => K.2.2.2.2.1 w (hat1 w hw)) hat2 (vx_c (va_Nw.use rfl (X.1 cls hcls)) vx_n)) hgood X.2.2.1 X.2.2.2 hS (hL.1.trans K.2.2.1.symm) d0 d3 d4 d6 d9 (fun x h => (hx x h).elim) hRf (by rw [List.map_map]; simpa [Function.comp_def, ax_v_cat, EXU] using hRl) hRc hRs K.2.2.2.2.2.2.2 (fun t ha hz hk9 => ?_) hS.2.2 h1 h2
  have hk9' : ∀ (k : Nat) (x : Nat × va_E), (ax_W ad ca w)[k]? = some x → t.heap[x.1]? = H[x.1]? := fun k x hx => hk9 x.1 ((hP k x hx).lt)
  exact ⟨w, trivial, ⟨hp, hP.kept hk9', hD⟩, Nat.le_trans hS.1 hz, fun q g1 g2 => (hk9 q (Nat.lt_of_lt_of_le g1 hS.1)).trans (hS.2.1 q g1 g2)⟩
end AXC
end
