section
-- ===== PART A: goes FIRST, ahead of the names: the tables' words, and 'selects' of the private methods out of them =====
/-- a private method of a class that the tables say can be made, by its rows of tables_1 -/
def lw_okq (q : MethodName × Nat) : Prop := (q.1.cls ≠ "java/lang/invoke/MethodHandle" ∧ q.1.cls ≠ "java/lang/invoke/VarHandle") ∧ Cond.instantiable q.1.cls q.2 ∈ tables_1 ∧ Cond.privateMethod q.1 ∈ tables_1 ∧ Cond.instanceMethod q.1 ∈ tables_1
theorem lw_p0 : lw_okq (⟨"ArmtowerLine", "tapeOf", "(Z)LArmtowerLine$Tape;"⟩, 14) := ⟨⟨by decide +kernel, by decide +kernel⟩, List.mem_of_getElem? (i := 20) (by decide +kernel), List.mem_of_getElem? (i := 138) (by decide +kernel), List.mem_of_getElem? (i := 139) (by decide +kernel)⟩
theorem lw_p1 : lw_okq (⟨"java/lang/Throwable", "fillInStackTrace", "(I)Ljava/lang/Throwable;"⟩, 6) := ⟨⟨by decide +kernel, by decide +kernel⟩, List.mem_of_getElem? (i := 196) (by decide +kernel), List.mem_of_getElem? (i := 194) (by decide +kernel), List.mem_of_getElem? (i := 195) (by decide +kernel)⟩
theorem lw_p2 : lw_okq (⟨"ArmtowerLine", "stretchAt", "(I)LArmtowerLine$Stretch;"⟩, 14) := ⟨⟨by decide +kernel, by decide +kernel⟩, List.mem_of_getElem? (i := 20) (by decide +kernel), List.mem_of_getElem? (i := 343) (by decide +kernel), List.mem_of_getElem? (i := 344) (by decide +kernel)⟩
theorem lw_p3 : lw_okq (⟨"ArmtowerLine$Stretch", "layHill", "(II)Z"⟩, 5) := ⟨⟨by decide +kernel, by decide +kernel⟩, List.mem_of_getElem? (i := 310) (by decide +kernel), List.mem_of_getElem? (i := 364) (by decide +kernel), List.mem_of_getElem? (i := 365) (by decide +kernel)⟩
theorem lw_p4 : lw_okq (⟨"ArmtowerLine", "towerAt", "(I)LArmtowerLine$Tower;"⟩, 14) := ⟨⟨by decide +kernel, by decide +kernel⟩, List.mem_of_getElem? (i := 20) (by decide +kernel), List.mem_of_getElem? (i := 384) (by decide +kernel), List.mem_of_getElem? (i := 385) (by decide +kernel)⟩
theorem lw_p5 : lw_okq (⟨"ArmtowerLine", "bookAt", "(I)LArmtowerLine$Book;"⟩, 14) := ⟨⟨by decide +kernel, by decide +kernel⟩, List.mem_of_getElem? (i := 20) (by decide +kernel), List.mem_of_getElem? (i := 405) (by decide +kernel), List.mem_of_getElem? (i := 406) (by decide +kernel)⟩
theorem lw_p6 : lw_okq (⟨"ArmtowerLine$Book", "phraseAt", "(I)I"⟩, 3) := ⟨⟨by decide +kernel, by decide +kernel⟩, List.mem_of_getElem? (i := 33) (by decide +kernel), List.mem_of_getElem? (i := 414) (by decide +kernel), List.mem_of_getElem? (i := 415) (by decide +kernel)⟩
theorem lw_p7 : lw_okq (⟨"ArmtowerLine$Book", "indexOf", "(I)I"⟩, 3) := ⟨⟨by decide +kernel, by decide +kernel⟩, List.mem_of_getElem? (i := 33) (by decide +kernel), List.mem_of_getElem? (i := 418) (by decide +kernel), List.mem_of_getElem? (i := 419) (by decide +kernel)⟩
theorem lw_p8 : lw_okq (⟨"ArmtowerLine$Book", "put", "(II)Z"⟩, 3) := ⟨⟨by decide +kernel, by decide +kernel⟩, List.mem_of_getElem? (i := 33) (by decide +kernel), List.mem_of_getElem? (i := 422) (by decide +kernel), List.mem_of_getElem? (i := 423) (by decide +kernel)⟩
theorem lw_p9 : lw_okq (⟨"ArmtowerLine$Book", "remove", "(I)V"⟩, 3) := ⟨⟨by decide +kernel, by decide +kernel⟩, List.mem_of_getElem? (i := 33) (by decide +kernel), List.mem_of_getElem? (i := 426) (by decide +kernel), List.mem_of_getElem? (i := 427) (by decide +kernel)⟩
theorem lw_p10 : lw_okq (⟨"ArmtowerLine$Book", "add", "(II)Z"⟩, 3) := ⟨⟨by decide +kernel, by decide +kernel⟩, List.mem_of_getElem? (i := 33) (by decide +kernel), List.mem_of_getElem? (i := 430) (by decide +kernel), List.mem_of_getElem? (i := 431) (by decide +kernel)⟩
theorem lw_p11 : lw_okq (⟨"ArmtowerLine", "layOut", "(LArmtowerLine$Book;Z)I"⟩, 14) := ⟨⟨by decide +kernel, by decide +kernel⟩, List.mem_of_getElem? (i := 20) (by decide +kernel), List.mem_of_getElem? (i := 452) (by decide +kernel), List.mem_of_getElem? (i := 453) (by decide +kernel)⟩
theorem lw_p12 : lw_okq (⟨"ArmtowerLine$Book", "lowestSpotOf", "(I)I"⟩, 3) := ⟨⟨by decide +kernel, by decide +kernel⟩, List.mem_of_getElem? (i := 33) (by decide +kernel), List.mem_of_getElem? (i := 456) (by decide +kernel), List.mem_of_getElem? (i := 457) (by decide +kernel)⟩
theorem lw_p13 : lw_okq (⟨"ArmtowerLine$Arm", "keepAll", "([IIZ)Z"⟩, 5) := ⟨⟨by decide +kernel, by decide +kernel⟩, List.mem_of_getElem? (i := 247) (by decide +kernel), List.mem_of_getElem? (i := 461) (by decide +kernel), List.mem_of_getElem? (i := 462) (by decide +kernel)⟩
theorem lw_p14 : lw_okq (⟨"ArmtowerLine$Tower", "armFor", "(Z)LArmtowerLine$Arm;"⟩, 4) := ⟨⟨by decide +kernel, by decide +kernel⟩, List.mem_of_getElem? (i := 241) (by decide +kernel), List.mem_of_getElem? (i := 476) (by decide +kernel), List.mem_of_getElem? (i := 477) (by decide +kernel)⟩
theorem lw_p15 : lw_okq (⟨"ArmtowerLine", "isEnd", "(IZ)Z"⟩, 14) := ⟨⟨by decide +kernel, by decide +kernel⟩, List.mem_of_getElem? (i := 20) (by decide +kernel), List.mem_of_getElem? (i := 480) (by decide +kernel), List.mem_of_getElem? (i := 481) (by decide +kernel)⟩
def lw_privs_1 : List (MethodName × Nat) := [(⟨"ArmtowerLine", "tapeOf", "(Z)LArmtowerLine$Tape;"⟩, 14), (⟨"java/lang/Throwable", "fillInStackTrace", "(I)Ljava/lang/Throwable;"⟩, 6), (⟨"ArmtowerLine", "stretchAt", "(I)LArmtowerLine$Stretch;"⟩, 14), (⟨"ArmtowerLine$Stretch", "layHill", "(II)Z"⟩, 5), (⟨"ArmtowerLine", "towerAt", "(I)LArmtowerLine$Tower;"⟩, 14), (⟨"ArmtowerLine", "bookAt", "(I)LArmtowerLine$Book;"⟩, 14), (⟨"ArmtowerLine$Book", "phraseAt", "(I)I"⟩, 3), (⟨"ArmtowerLine$Book", "indexOf", "(I)I"⟩, 3), (⟨"ArmtowerLine$Book", "put", "(II)Z"⟩, 3), (⟨"ArmtowerLine$Book", "remove", "(I)V"⟩, 3), (⟨"ArmtowerLine$Book", "add", "(II)Z"⟩, 3), (⟨"ArmtowerLine", "layOut", "(LArmtowerLine$Book;Z)I"⟩, 14), (⟨"ArmtowerLine$Book", "lowestSpotOf", "(I)I"⟩, 3), (⟨"ArmtowerLine$Arm", "keepAll", "([IIZ)Z"⟩, 5), (⟨"ArmtowerLine$Tower", "armFor", "(Z)LArmtowerLine$Arm;"⟩, 4), (⟨"ArmtowerLine", "isEnd", "(IZ)Z"⟩, 14)]
theorem lw_r1 : ∀ q ∈ lw_privs_1, lw_okq q := List.forall_mem_cons.mpr ⟨lw_p0, List.forall_mem_cons.mpr ⟨lw_p1, List.forall_mem_cons.mpr ⟨lw_p2, List.forall_mem_cons.mpr ⟨lw_p3, List.forall_mem_cons.mpr ⟨lw_p4, List.forall_mem_cons.mpr ⟨lw_p5, List.forall_mem_cons.mpr ⟨lw_p6, List.forall_mem_cons.mpr ⟨lw_p7, List.forall_mem_cons.mpr ⟨lw_p8, List.forall_mem_cons.mpr ⟨lw_p9, List.forall_mem_cons.mpr ⟨lw_p10, List.forall_mem_cons.mpr ⟨lw_p11, List.forall_mem_cons.mpr ⟨lw_p12, List.forall_mem_cons.mpr ⟨lw_p13, List.forall_mem_cons.mpr ⟨lw_p14, List.forall_mem_cons.mpr ⟨lw_p15, fun _ h => absurd h List.not_mem_nil⟩⟩⟩⟩⟩⟩⟩⟩⟩⟩⟩⟩⟩⟩⟩⟩
theorem lw_p16 : lw_okq (⟨"ArmtowerLine$Arm", "keepOne", "(I)Z"⟩, 5) := ⟨⟨by decide +kernel, by decide +kernel⟩, List.mem_of_getElem? (i := 247) (by decide +kernel), List.mem_of_getElem? (i := 484) (by decide +kernel), List.mem_of_getElem? (i := 485) (by decide +kernel)⟩
theorem lw_p17 : lw_okq (⟨"ArmtowerLine$Log", "enter", "(IIZ)V"⟩, 4) := ⟨⟨by decide +kernel, by decide +kernel⟩, List.mem_of_getElem? (i := 253) (by decide +kernel), List.mem_of_getElem? (i := 489) (by decide +kernel), List.mem_of_getElem? (i := 490) (by decide +kernel)⟩
theorem lw_p18 : lw_okq (⟨"ArmtowerLine", "passOne", "()V"⟩, 14) := ⟨⟨by decide +kernel, by decide +kernel⟩, List.mem_of_getElem? (i := 20) (by decide +kernel), List.mem_of_getElem? (i := 527) (by decide +kernel), List.mem_of_getElem? (i := 528) (by decide +kernel)⟩
theorem lw_p19 : lw_okq (⟨"ArmtowerLine", "look", "(IZ)V"⟩, 14) := ⟨⟨by decide +kernel, by decide +kernel⟩, List.mem_of_getElem? (i := 20) (by decide +kernel), List.mem_of_getElem? (i := 531) (by decide +kernel), List.mem_of_getElem? (i := 532) (by decide +kernel)⟩
theorem lw_p20 : lw_okq (⟨"ArmtowerLine", "isSeenAlong", "(I)Z"⟩, 14) := ⟨⟨by decide +kernel, by decide +kernel⟩, List.mem_of_getElem? (i := 20) (by decide +kernel), List.mem_of_getElem? (i := 538) (by decide +kernel), List.mem_of_getElem? (i := 539) (by decide +kernel)⟩
theorem lw_p21 : lw_okq (⟨"ArmtowerLine", "isDay", "()Z"⟩, 14) := ⟨⟨by decide +kernel, by decide +kernel⟩, List.mem_of_getElem? (i := 20) (by decide +kernel), List.mem_of_getElem? (i := 542) (by decide +kernel), List.mem_of_getElem? (i := 543) (by decide +kernel)⟩
theorem lw_p22 : lw_okq (⟨"ArmtowerLine$Stretch", "isClear", "(II)Z"⟩, 5) := ⟨⟨by decide +kernel, by decide +kernel⟩, List.mem_of_getElem? (i := 310) (by decide +kernel), List.mem_of_getElem? (i := 546) (by decide +kernel), List.mem_of_getElem? (i := 547) (by decide +kernel)⟩
theorem lw_p23 : lw_okq (⟨"ArmtowerLine", "signAsRead", "(II)I"⟩, 14) := ⟨⟨by decide +kernel, by decide +kernel⟩, List.mem_of_getElem? (i := 20) (by decide +kernel), List.mem_of_getElem? (i := 550) (by decide +kernel), List.mem_of_getElem? (i := 551) (by decide +kernel)⟩
theorem lw_p24 : lw_okq (⟨"ArmtowerLine$Tape", "putOn", "(II)V"⟩, 5) := ⟨⟨by decide +kernel, by decide +kernel⟩, List.mem_of_getElem? (i := 50) (by decide +kernel), List.mem_of_getElem? (i := 554) (by decide +kernel), List.mem_of_getElem? (i := 555) (by decide +kernel)⟩
theorem lw_p25 : lw_okq (⟨"ArmtowerLine$Tape", "begin", "(IZ)V"⟩, 5) := ⟨⟨by decide +kernel, by decide +kernel⟩, List.mem_of_getElem? (i := 50) (by decide +kernel), List.mem_of_getElem? (i := 558) (by decide +kernel), List.mem_of_getElem? (i := 559) (by decide +kernel)⟩
theorem lw_p26 : lw_okq (⟨"ArmtowerLine$Tape", "dropAll", "()V"⟩, 5) := ⟨⟨by decide +kernel, by decide +kernel⟩, List.mem_of_getElem? (i := 50) (by decide +kernel), List.mem_of_getElem? (i := 562) (by decide +kernel), List.mem_of_getElem? (i := 563) (by decide +kernel)⟩
theorem lw_p27 : lw_okq (⟨"ArmtowerLine$Tape", "end", "(I)V"⟩, 5) := ⟨⟨by decide +kernel, by decide +kernel⟩, List.mem_of_getElem? (i := 50) (by decide +kernel), List.mem_of_getElem? (i := 594) (by decide +kernel), List.mem_of_getElem? (i := 595) (by decide +kernel)⟩
theorem lw_p28 : lw_okq (⟨"ArmtowerLine$Dispatch", "add", "(I)V"⟩, 6) := ⟨⟨by decide +kernel, by decide +kernel⟩, List.mem_of_getElem? (i := 565) (by decide +kernel), List.mem_of_getElem? (i := 598) (by decide +kernel), List.mem_of_getElem? (i := 599) (by decide +kernel)⟩
theorem lw_p29 : lw_okq (⟨"ArmtowerLine", "showNext", "(IZ)V"⟩, 14) := ⟨⟨by decide +kernel, by decide +kernel⟩, List.mem_of_getElem? (i := 20) (by decide +kernel), List.mem_of_getElem? (i := 602) (by decide +kernel), List.mem_of_getElem? (i := 603) (by decide +kernel)⟩
theorem lw_p30 : lw_okq (⟨"ArmtowerLine$Arm", "removeFirst", "()I"⟩, 5) := ⟨⟨by decide +kernel, by decide +kernel⟩, List.mem_of_getElem? (i := 247) (by decide +kernel), List.mem_of_getElem? (i := 606) (by decide +kernel), List.mem_of_getElem? (i := 607) (by decide +kernel)⟩
theorem lw_p31 : lw_okq (⟨"ArmtowerLine", "tellSpies", "(II)V"⟩, 14) := ⟨⟨by decide +kernel, by decide +kernel⟩, List.mem_of_getElem? (i := 20) (by decide +kernel), List.mem_of_getElem? (i := 610) (by decide +kernel), List.mem_of_getElem? (i := 611) (by decide +kernel)⟩
def lw_privs_2 : List (MethodName × Nat) := [(⟨"ArmtowerLine$Arm", "keepOne", "(I)Z"⟩, 5), (⟨"ArmtowerLine$Log", "enter", "(IIZ)V"⟩, 4), (⟨"ArmtowerLine", "passOne", "()V"⟩, 14), (⟨"ArmtowerLine", "look", "(IZ)V"⟩, 14), (⟨"ArmtowerLine", "isSeenAlong", "(I)Z"⟩, 14), (⟨"ArmtowerLine", "isDay", "()Z"⟩, 14), (⟨"ArmtowerLine$Stretch", "isClear", "(II)Z"⟩, 5), (⟨"ArmtowerLine", "signAsRead", "(II)I"⟩, 14), (⟨"ArmtowerLine$Tape", "putOn", "(II)V"⟩, 5), (⟨"ArmtowerLine$Tape", "begin", "(IZ)V"⟩, 5), (⟨"ArmtowerLine$Tape", "dropAll", "()V"⟩, 5), (⟨"ArmtowerLine$Tape", "end", "(I)V"⟩, 5), (⟨"ArmtowerLine$Dispatch", "add", "(I)V"⟩, 6), (⟨"ArmtowerLine", "showNext", "(IZ)V"⟩, 14), (⟨"ArmtowerLine$Arm", "removeFirst", "()I"⟩, 5), (⟨"ArmtowerLine", "tellSpies", "(II)V"⟩, 14)]
theorem lw_r2 : ∀ q ∈ lw_privs_2, lw_okq q := List.forall_mem_cons.mpr ⟨lw_p16, List.forall_mem_cons.mpr ⟨lw_p17, List.forall_mem_cons.mpr ⟨lw_p18, List.forall_mem_cons.mpr ⟨lw_p19, List.forall_mem_cons.mpr ⟨lw_p20, List.forall_mem_cons.mpr ⟨lw_p21, List.forall_mem_cons.mpr ⟨lw_p22, List.forall_mem_cons.mpr ⟨lw_p23, List.forall_mem_cons.mpr ⟨lw_p24, List.forall_mem_cons.mpr ⟨lw_p25, List.forall_mem_cons.mpr ⟨lw_p26, List.forall_mem_cons.mpr ⟨lw_p27, List.forall_mem_cons.mpr ⟨lw_p28, List.forall_mem_cons.mpr ⟨lw_p29, List.forall_mem_cons.mpr ⟨lw_p30, List.forall_mem_cons.mpr ⟨lw_p31, fun _ h => absurd h List.not_mem_nil⟩⟩⟩⟩⟩⟩⟩⟩⟩⟩⟩⟩⟩⟩⟩⟩
theorem lw_p32 : lw_okq (⟨"ArmtowerLine$Spy", "note", "(I)V"⟩, 3) := ⟨⟨by decide +kernel, by decide +kernel⟩, List.mem_of_getElem? (i := 500) (by decide +kernel), List.mem_of_getElem? (i := 614) (by decide +kernel), List.mem_of_getElem? (i := 615) (by decide +kernel)⟩
theorem lw_p33 : lw_okq (⟨"ArmtowerLine$Log", "tell", "(II)I"⟩, 4) := ⟨⟨by decide +kernel, by decide +kernel⟩, List.mem_of_getElem? (i := 253) (by decide +kernel), List.mem_of_getElem? (i := 656) (by decide +kernel), List.mem_of_getElem? (i := 657) (by decide +kernel)⟩
theorem lw_p34 : lw_okq (⟨"ArmtowerLine$Log", "nextTaken", "(I)I"⟩, 4) := ⟨⟨by decide +kernel, by decide +kernel⟩, List.mem_of_getElem? (i := 253) (by decide +kernel), List.mem_of_getElem? (i := 670) (by decide +kernel), List.mem_of_getElem? (i := 671) (by decide +kernel)⟩
theorem lw_p35 : lw_okq (⟨"ArmtowerLine", "dispatchAt", "(ZI)LArmtowerLine$Dispatch;"⟩, 14) := ⟨⟨by decide +kernel, by decide +kernel⟩, List.mem_of_getElem? (i := 20) (by decide +kernel), List.mem_of_getElem? (i := 681) (by decide +kernel), List.mem_of_getElem? (i := 682) (by decide +kernel)⟩
theorem lw_p36 : lw_okq (⟨"ArmtowerLine$Dispatch", "tell", "(I)I"⟩, 6) := ⟨⟨by decide +kernel, by decide +kernel⟩, List.mem_of_getElem? (i := 565) (by decide +kernel), List.mem_of_getElem? (i := 686) (by decide +kernel), List.mem_of_getElem? (i := 687) (by decide +kernel)⟩
theorem lw_p37 : lw_okq (⟨"ArmtowerLine$Dispatch", "spots", "()I"⟩, 6) := ⟨⟨by decide +kernel, by decide +kernel⟩, List.mem_of_getElem? (i := 565) (by decide +kernel), List.mem_of_getElem? (i := 690) (by decide +kernel), List.mem_of_getElem? (i := 691) (by decide +kernel)⟩
theorem lw_p38 : lw_okq (⟨"ArmtowerLine", "spyAt", "(I)LArmtowerLine$Spy;"⟩, 14) := ⟨⟨by decide +kernel, by decide +kernel⟩, List.mem_of_getElem? (i := 20) (by decide +kernel), List.mem_of_getElem? (i := 710) (by decide +kernel), List.mem_of_getElem? (i := 711) (by decide +kernel)⟩
theorem lw_p39 : lw_okq (⟨"ArmtowerLineModel", "isStretch", "(I)Z"⟩, 43) := ⟨⟨by decide +kernel, by decide +kernel⟩, List.mem_of_getElem? (i := 744) (by decide +kernel), List.mem_of_getElem? (i := 895) (by decide +kernel), List.mem_of_getElem? (i := 896) (by decide +kernel)⟩
theorem lw_p40 : lw_okq (⟨"ArmtowerLineModel", "isTower", "(I)Z"⟩, 43) := ⟨⟨by decide +kernel, by decide +kernel⟩, List.mem_of_getElem? (i := 744) (by decide +kernel), List.mem_of_getElem? (i := 907) (by decide +kernel), List.mem_of_getElem? (i := 908) (by decide +kernel)⟩
theorem lw_p41 : lw_okq (⟨"ArmtowerLineModel", "spotOf", "(II)I"⟩, 43) := ⟨⟨by decide +kernel, by decide +kernel⟩, List.mem_of_getElem? (i := 744) (by decide +kernel), List.mem_of_getElem? (i := 922) (by decide +kernel), List.mem_of_getElem? (i := 923) (by decide +kernel)⟩
theorem lw_p42 : lw_okq (⟨"ArmtowerLineModel", "makesSigns", "(IZ)I"⟩, 43) := ⟨⟨by decide +kernel, by decide +kernel⟩, List.mem_of_getElem? (i := 744) (by decide +kernel), List.mem_of_getElem? (i := 938) (by decide +kernel), List.mem_of_getElem? (i := 939) (by decide +kernel)⟩
theorem lw_p43 : lw_okq (⟨"ArmtowerLineModel", "lowestSpot", "(II)I"⟩, 43) := ⟨⟨by decide +kernel, by decide +kernel⟩, List.mem_of_getElem? (i := 744) (by decide +kernel), List.mem_of_getElem? (i := 942) (by decide +kernel), List.mem_of_getElem? (i := 943) (by decide +kernel)⟩
theorem lw_p44 : lw_okq (⟨"ArmtowerLineModel", "keepsAt", "(III)V"⟩, 43) := ⟨⟨by decide +kernel, by decide +kernel⟩, List.mem_of_getElem? (i := 744) (by decide +kernel), List.mem_of_getElem? (i := 949) (by decide +kernel), List.mem_of_getElem? (i := 950) (by decide +kernel)⟩
theorem lw_p45 : lw_okq (⟨"ArmtowerLineModel", "isEnd", "(IZ)Z"⟩, 43) := ⟨⟨by decide +kernel, by decide +kernel⟩, List.mem_of_getElem? (i := 744) (by decide +kernel), List.mem_of_getElem? (i := 957) (by decide +kernel), List.mem_of_getElem? (i := 958) (by decide +kernel)⟩
theorem lw_p46 : lw_okq (⟨"ArmtowerLineModel", "writes", "(IIZ)V"⟩, 43) := ⟨⟨by decide +kernel, by decide +kernel⟩, List.mem_of_getElem? (i := 744) (by decide +kernel), List.mem_of_getElem? (i := 961) (by decide +kernel), List.mem_of_getElem? (i := 962) (by decide +kernel)⟩
theorem lw_p47 : lw_okq (⟨"ArmtowerLineModel", "looks", "(IZ)V"⟩, 43) := ⟨⟨by decide +kernel, by decide +kernel⟩, List.mem_of_getElem? (i := 744) (by decide +kernel), List.mem_of_getElem? (i := 973) (by decide +kernel), List.mem_of_getElem? (i := 974) (by decide +kernel)⟩
def lw_privs_3 : List (MethodName × Nat) := [(⟨"ArmtowerLine$Spy", "note", "(I)V"⟩, 3), (⟨"ArmtowerLine$Log", "tell", "(II)I"⟩, 4), (⟨"ArmtowerLine$Log", "nextTaken", "(I)I"⟩, 4), (⟨"ArmtowerLine", "dispatchAt", "(ZI)LArmtowerLine$Dispatch;"⟩, 14), (⟨"ArmtowerLine$Dispatch", "tell", "(I)I"⟩, 6), (⟨"ArmtowerLine$Dispatch", "spots", "()I"⟩, 6), (⟨"ArmtowerLine", "spyAt", "(I)LArmtowerLine$Spy;"⟩, 14), (⟨"ArmtowerLineModel", "isStretch", "(I)Z"⟩, 43), (⟨"ArmtowerLineModel", "isTower", "(I)Z"⟩, 43), (⟨"ArmtowerLineModel", "spotOf", "(II)I"⟩, 43), (⟨"ArmtowerLineModel", "makesSigns", "(IZ)I"⟩, 43), (⟨"ArmtowerLineModel", "lowestSpot", "(II)I"⟩, 43), (⟨"ArmtowerLineModel", "keepsAt", "(III)V"⟩, 43), (⟨"ArmtowerLineModel", "isEnd", "(IZ)Z"⟩, 43), (⟨"ArmtowerLineModel", "writes", "(IIZ)V"⟩, 43), (⟨"ArmtowerLineModel", "looks", "(IZ)V"⟩, 43)]
theorem lw_r3 : ∀ q ∈ lw_privs_3, lw_okq q := List.forall_mem_cons.mpr ⟨lw_p32, List.forall_mem_cons.mpr ⟨lw_p33, List.forall_mem_cons.mpr ⟨lw_p34, List.forall_mem_cons.mpr ⟨lw_p35, List.forall_mem_cons.mpr ⟨lw_p36, List.forall_mem_cons.mpr ⟨lw_p37, List.forall_mem_cons.mpr ⟨lw_p38, List.forall_mem_cons.mpr ⟨lw_p39, List.forall_mem_cons.mpr ⟨lw_p40, List.forall_mem_cons.mpr ⟨lw_p41, List.forall_mem_cons.mpr ⟨lw_p42, List.forall_mem_cons.mpr ⟨lw_p43, List.forall_mem_cons.mpr ⟨lw_p44, List.forall_mem_cons.mpr ⟨lw_p45, List.forall_mem_cons.mpr ⟨lw_p46, List.forall_mem_cons.mpr ⟨lw_p47, fun _ h => absurd h List.not_mem_nil⟩⟩⟩⟩⟩⟩⟩⟩⟩⟩⟩⟩⟩⟩⟩⟩
theorem lw_p48 : lw_okq (⟨"ArmtowerLineModel", "seesAlong", "(I)Z"⟩, 43) := ⟨⟨by decide +kernel, by decide +kernel⟩, List.mem_of_getElem? (i := 744) (by decide +kernel), List.mem_of_getElem? (i := 977) (by decide +kernel), List.mem_of_getElem? (i := 978) (by decide +kernel)⟩
theorem lw_p49 : lw_okq (⟨"ArmtowerLineModel", "isDay", "()Z"⟩, 43) := ⟨⟨by decide +kernel, by decide +kernel⟩, List.mem_of_getElem? (i := 744) (by decide +kernel), List.mem_of_getElem? (i := 981) (by decide +kernel), List.mem_of_getElem? (i := 982) (by decide +kernel)⟩
theorem lw_p50 : lw_okq (⟨"ArmtowerLineModel", "reads", "(II)I"⟩, 43) := ⟨⟨by decide +kernel, by decide +kernel⟩, List.mem_of_getElem? (i := 744) (by decide +kernel), List.mem_of_getElem? (i := 988) (by decide +kernel), List.mem_of_getElem? (i := 989) (by decide +kernel)⟩
theorem lw_p51 : lw_okq (⟨"ArmtowerLineModel", "tapes", "(II)V"⟩, 43) := ⟨⟨by decide +kernel, by decide +kernel⟩, List.mem_of_getElem? (i := 744) (by decide +kernel), List.mem_of_getElem? (i := 992) (by decide +kernel), List.mem_of_getElem? (i := 993) (by decide +kernel)⟩
theorem lw_p52 : lw_okq (⟨"ArmtowerLineModel", "opens", "(IZ)V"⟩, 43) := ⟨⟨by decide +kernel, by decide +kernel⟩, List.mem_of_getElem? (i := 744) (by decide +kernel), List.mem_of_getElem? (i := 996) (by decide +kernel), List.mem_of_getElem? (i := 997) (by decide +kernel)⟩
theorem lw_p53 : lw_okq (⟨"ArmtowerLineModel", "ends", "(I)V"⟩, 43) := ⟨⟨by decide +kernel, by decide +kernel⟩, List.mem_of_getElem? (i := 744) (by decide +kernel), List.mem_of_getElem? (i := 1000) (by decide +kernel), List.mem_of_getElem? (i := 1001) (by decide +kernel)⟩
theorem lw_p54 : lw_okq (⟨"ArmtowerLineModel", "turnsTo", "(IZI)V"⟩, 43) := ⟨⟨by decide +kernel, by decide +kernel⟩, List.mem_of_getElem? (i := 744) (by decide +kernel), List.mem_of_getElem? (i := 1004) (by decide +kernel), List.mem_of_getElem? (i := 1005) (by decide +kernel)⟩
theorem lw_p55 : lw_okq (⟨"ArmtowerLineModel", "spies", "(II)V"⟩, 43) := ⟨⟨by decide +kernel, by decide +kernel⟩, List.mem_of_getElem? (i := 744) (by decide +kernel), List.mem_of_getElem? (i := 1008) (by decide +kernel), List.mem_of_getElem? (i := 1009) (by decide +kernel)⟩
theorem lw_p56 : lw_okq (⟨"ArmtowerLineModel", "nextRead", "(II)I"⟩, 43) := ⟨⟨by decide +kernel, by decide +kernel⟩, List.mem_of_getElem? (i := 744) (by decide +kernel), List.mem_of_getElem? (i := 1044) (by decide +kernel), List.mem_of_getElem? (i := 1045) (by decide +kernel)⟩
def lw_privs_4 : List (MethodName × Nat) := [(⟨"ArmtowerLineModel", "seesAlong", "(I)Z"⟩, 43), (⟨"ArmtowerLineModel", "isDay", "()Z"⟩, 43), (⟨"ArmtowerLineModel", "reads", "(II)I"⟩, 43), (⟨"ArmtowerLineModel", "tapes", "(II)V"⟩, 43), (⟨"ArmtowerLineModel", "opens", "(IZ)V"⟩, 43), (⟨"ArmtowerLineModel", "ends", "(I)V"⟩, 43), (⟨"ArmtowerLineModel", "turnsTo", "(IZI)V"⟩, 43), (⟨"ArmtowerLineModel", "spies", "(II)V"⟩, 43), (⟨"ArmtowerLineModel", "nextRead", "(II)I"⟩, 43)]
theorem lw_r4 : ∀ q ∈ lw_privs_4, lw_okq q := List.forall_mem_cons.mpr ⟨lw_p48, List.forall_mem_cons.mpr ⟨lw_p49, List.forall_mem_cons.mpr ⟨lw_p50, List.forall_mem_cons.mpr ⟨lw_p51, List.forall_mem_cons.mpr ⟨lw_p52, List.forall_mem_cons.mpr ⟨lw_p53, List.forall_mem_cons.mpr ⟨lw_p54, List.forall_mem_cons.mpr ⟨lw_p55, List.forall_mem_cons.mpr ⟨lw_p56, fun _ h => absurd h List.not_mem_nil⟩⟩⟩⟩⟩⟩⟩⟩⟩
def lw_privs : List (MethodName × Nat) := lw_privs_1 ++ (lw_privs_2 ++ (lw_privs_3 ++ (lw_privs_4)))
def lw_tbl : List Cond := k2_sels lw_privs ++ tables_1
theorem lw_privs_ok : ∀ q ∈ lw_privs, lw_okq q := by
  show ∀ q ∈ lw_privs_1 ++ (lw_privs_2 ++ (lw_privs_3 ++ (lw_privs_4))), lw_okq q
  exact List.forall_mem_append.mpr ⟨lw_r1, List.forall_mem_append.mpr ⟨lw_r2, List.forall_mem_append.mpr ⟨lw_r3, lw_r4⟩⟩⟩
-- ===== end of PART A; then your names; then what follows =====
end
section
/-! ===== BEGIN words of one list among another's, by their places ===== -/
theorem goodIn_r {big : List Cond} (ws : List Cond) (ps : List Nat) (hp : ws = ps.filterMap (fun i => big[i]?)) (h : ws.all goodWord = true) : GoodIn big ws := by
  intro w hw
  have h1 := List.all_eq_true.mp h w hw
  rw [hp] at hw
  obtain ⟨i, -, hi⟩ := List.mem_filterMap.mp hw
  have hm : w ∈ big := by first | exact List.mem_of_getElem? hi | exact List.getElem?_mem hi
  exact ⟨hm, good_of_word h1⟩
theorem goodIn_app {big a b : List Cond} (ha : GoodIn big a) (hb : GoodIn big b) : GoodIn big (a ++ b) := fun w h => (List.mem_append.mp h).elim (ha w) (hb w)
theorem goodIn_ca {big a b : List Cond} {c : Cond} (ha : GoodIn big (c :: a)) (hb : GoodIn big b) : GoodIn big (c :: (a ++ b)) := fun w h => (List.mem_cons.mp h).elim (fun e => ha w (List.mem_cons.mpr (Or.inl e))) (fun h => (List.mem_append.mp h).elim (fun h => ha w (List.mem_cons.mpr (Or.inr h))) (hb w))
theorem goodIn_sub {big ws : List Cond} (hm : ∀ w ∈ ws, w ∈ big) (h : ws.all goodWord = true) : GoodIn big ws := fun w hw => ⟨hm w hw, good_of_word (List.all_eq_true.mp h w hw)⟩
/-! ===== END ===== -/

/-! ===== BEGIN exceptions that leave a method, and their catching by the caller (launches without stack traces) ===== -/
section VXA
/-! The laws vx_back, vx_callV, vx_callS, vx_callSW, vx_throw0, vx_throwS follow proofs of the library, with one case more: JvmDerived/Free/Laws.lean (Back.of_free), Shelf42/LK1.lean (callV, callS), Shelf/KitTraced.lean (throwNew0V, throwNewS). -/
/-- where a method has thrown q: the class by its name, the cell, what was written, the world -/
def vx_T (XC : String → State → State → Prop) (st : State) (q : Addr) (t : State) (mc ms : Nat) (free : Addr → Prop) : Prop :=
  ∃ (E : String) (ce : Cell) (L : List Loc), XC E st t ∧ t.heap[q]? = some ce ∧ ce.vm = .none ∧ st.vm.findClass E = some ce.cls ∧ st.WarmedH t.vm ∧ st.sameButNew ({ t with vm := st.vm } : State) L mc ms ∧ ∀ z ∈ L, free z.base
def vx_Q (Qc : Array Value → State → Outcome → State → Prop) (XC : String → State → State → Prop) (mc ms : Nat) (free : Addr → Prop) : Array Value → State → Outcome → State → Prop := fun a st o t =>
  (Qc a st o t ∧ ∃ L, FrameEnd st o t L mc ms ∧ ∀ q ∈ L, free q.base) ∨ ∃ q, o = .threw q ∧ vx_T XC st q t mc ms free
/-- a callee that returns or throws -/
def vx_Met (l : Launch) (y : MethodName) (ws : List Cond) (rm : Room) (Pc : Array Value → State → Prop) (Qc : Array Value → State → Outcome → State → Prop) (XC : String → State → State → Prop) (mc ms : Nat) (free : Addr → Prop) : Prop :=
  MetFree l y (headSpec ws rm) Pc (fun _ _ _ _ _ => True) (vx_Q Qc XC mc ms free)
def vx_Post (XC : String → State → State → Prop) (mc ms : Nat) (free : Addr → Prop) : Pt → Array Value → Addr → Pt → Prop := fun A a q B =>
  ∃ (g : JFrame) (mk : MethodId) (t : State) (L : List Loc) (E : String) (ce : Cell), B.U.heap = t.heap ∧ B.U.vm = t.vm ∧ XC E (A.U.calling g mk a) t ∧ t.heap[q]? = some ce ∧ ce.vm = .none ∧ A.U.vm.findClass E = some ce.cls ∧ B.locs = A.locs ++ L ∧ (∀ z ∈ L, free z.base) ∧ B.cells = A.cells + mc ∧ B.slots = A.slots + ms
def vx_Back (l : Launch) (R : Room) (p : Program) (e : Env) (below : List Frame) (s : State) (sargs : Array Value) (y : MethodName) (len W9 : Nat)
    (Pre : Pt → Array Value → Prop) (Post : Pt → Array Value → Option Value → Pt → Prop) (PostX : Pt → Array Value → Addr → Pt → Prop) : Prop :=
  ∀ (m : MethodId) (meth : Method) (c : Code) (A : Pt) (g : JFrame) (ig : Instr) (mk : MethodId) (a : Array Value),
    Stand p l e R s m sargs below meth c A.U A.locs A.cells A.slots → g.method = m → g.locals.size = c.maxLocals → decode c.code g.pc = .ok (ig, len) →
    2 * g.monitorRoom + (g.stack.map fun v => v.category).sum ≤ W9 → A.U.methodNamed? y = some mk → Pre A a →
    (∃ (v : Option Value) (B : Pt), Stand p l e R s m sargs below meth c B.U B.locs B.cells B.slots ∧ Post A a v B ∧
      Steps p.tables e below (doInvoke e (A.U.setTop g) [] mk a).1 (B.U.setTop { g with pc := g.pc + len, stack := v.toList ++ g.stack })) ∨
    (∃ (q : Addr) (B : Pt), Stand p l e R s m sargs below meth c B.U B.locs B.cells B.slots ∧ PostX A a q B ∧
      Steps p.tables e below (doInvoke e (A.U.setTop g) [] mk a).1 ((B.U.setTop g).pushFrame (.throwing q)))
section Payer
variable {l : Launch} {R : Room} {p : Program} {e : Env} {below : List Frame} {s : State} {sargs : Array Value} {y : MethodName} {len W9 : Nat}
theorem vx_back {ws : List Cond} {rm : Room} {Pc : Array Value → State → Prop} {Qc : Array Value → State → Outcome → State → Prop} {XC : String → State → State → Prop} {mc ms : Nat} {free : Addr → Prop} {bytes : ByteArray} {maxL : Nat} {ret : Option FieldType}
    (hM : vx_Met l y ws rm Pc Qc XC mc ms free) (hblind : FrameBlind Pc) (hrc : rm.cells = mc) (hrs : rm.slots = ms)
    (hframes : rm.frames + 1 ≤ R.frames) (hlocals : W9 + (maxL + 11) + rm.locals ≤ R.locals)
    (hws : ∀ w ∈ ws, ∀ a' U, s.WarmedH U.vm → w.before a' U = true) (hcode : Cond.code y bytes maxL ret ∈ ws) (hinit : ∀ a' U, s.WarmedH U.vm → (Cond.initialized y.cls).before a' U = true) :
    vx_Back l R p e below s sargs y len W9 (PreOf R mc ms Pc) (PostOf Qc mc ms free) (vx_Post XC mc ms free) := by
  intro m meth c A g ig mk a X hg hsize hdg hW hn hp
  have h1 : (headSpec ws rm).pre.before a A.U = true := atoms_intro fun w hw => hws w hw _ _ X.warmed
  have h2 : (Cond.code y bytes maxL ret).before a A.U = true := hws _ hcode _ _ X.warmed
  have h3 : (Cond.initialized y.cls).before a A.U = true := hinit _ _ X.warmed
  have h4 : A.cells + (headSpec ws rm).room.cells ≤ R.cells := by rw [show (headSpec ws rm).room.cells = mc from hrc]; exact hp.1
  have h5 : A.slots + (headSpec ws rm).room.slots ≤ R.slots := by rw [show (headSpec ws rm).room.slots = ms from hrs]; exact hp.2.1
  have hPc : Pc a (A.U.calling g mk a) := hblind _ _ _ _ hp.2.2
  obtain ⟨U, Ls, c0, s0⟩ := A
  dsimp only [Pt.U, Pt.locs, Pt.cells, Pt.slots] at h1 h2 h3 h4 h5 X hn hPc ⊢
  obtain ⟨methY, cY, hmY, hcY, -, hlY, -, -, -, -⟩ := Cond.code_spec hn h2
  obtain ⟨kY, hkY, -⟩ := className_of_methodNamed hn
  have hinitY : kY.init = .initialized := Cond.initialized_spec (findClass_of_methodNamed hn) hkY h3
  have h : At U g.method c below := by rw [hg]; exact X.here
  have hlocals9 : W9 + (maxL + 11) + (headSpec ws rm).room.locals ≤ R.locals := hlocals
  have happ : (headSpec ws rm).appliesLoose y e.platform (U.calling g mk a) = true :=
    Spec.appliesLoose_calling (g := g) h hdg hn hkY hinitY
      (X.room_calling (g := g) (R' := (headSpec ws rm).room) hsize hmY hcY hframes (by rw [hlY]; omega) h4 h5) h1
  obtain ⟨mid, hmid⟩ := h.above
  have hfr : (U.setTop g).frames = (.java g :: mid) ++ below := by rw [State.frames_setTop' g h.top, hmid]; rfl
  obtain ⟨o, s₂, hsteps, -, hend, hq⟩ := Steps.callFree hM p X.admits X.cas X.clock (acts := []) hfr happ hPc trivial
  have hq' : vx_Q Qc XC mc ms free a (U.calling g mk a) o s₂ := hq
  rw [State.frames_setTop' g h.top] at hend
  obtain ⟨g₀, hg0⟩ := Option.isSome_iff_exists.mp h.top
  obtain ⟨r, hr⟩ := State.topJava?_eq_some.mp hg0
  have hr' : (({ U with heap := s₂.heap, slotsUsed := s₂.slotsUsed } : State).setVm s₂.vm).frames = .java g₀ :: r := hr
  rcases hq' with ⟨hqc, L, hfe, hL⟩ | ⟨q, rfl, E, ce, L, hx, hce, hcv, hcl, hW₂, hsm, hL⟩
  · obtain ⟨⟨v, rfl⟩, hW₂, e2, q2, q3, q4, q5, q6⟩ := id hfe
    have e3 : s₂ = ({ (U.calling g mk a).setFrames s₂.frames with heap := s₂.heap, slotsUsed := s₂.slotsUsed } : State).setVm s₂.vm := by
      have : s₂ = ({ s₂ with vm := (U.calling g mk a).vm } : State).setVm s₂.vm := rfl
      rw [e2] at this
      exact this
    obtain ⟨c₂, i₂, len₂, hc₂, hd₂, hf₂⟩ := hend
    have hW' : U.WarmedH s₂.vm := hW₂
    have hcc : c₂ = c := by
      have h1 : s₂.code? g.method = U.code? g.method := by
        rw [State.code?_eq, State.code?_eq, hW'.alike.method?]
      exact Option.some.inj (hc₂.symm.trans (h1.trans h.code))
    subst hcc
    have hlen : len₂ = len := by rw [hdg] at hd₂; cases hd₂; rfl
    subst hlen
    have hs₂ : s₂ = (({ U with heap := s₂.heap, slotsUsed := s₂.slotsUsed } : State).setVm s₂.vm).setTop { g with pc := g.pc + len₂, stack := v.toList ++ g.stack } := by
      refine e3.trans ?_
      rw [hf₂, State.calling_eq h.top, State.setFrames_setFrames, State.setTop_of_frames _ hr', hr]
      rfl
    have hsame : U.sameButNew ({ U with heap := s₂.heap, slotsUsed := s₂.slotsUsed } : State) L mc ms := by
      refine ⟨?_, q2, q3, q4, q5, q6⟩
      obtain ⟨t, ht, -⟩ := State.frames_cons hr
      show ({ U with heap := s₂.heap, slotsUsed := s₂.slotsUsed } : State) = { U.setFrames U.frames with heap := s₂.heap, slotsUsed := s₂.slotsUsed }
      rw [State.setFrames_self ht]
    subst hg
    refine Or.inl ⟨v, ⟨(({ U with heap := s₂.heap, slotsUsed := s₂.slotsUsed } : State).setVm s₂.vm), Ls ++ L, c0 + mc, s0 + ms⟩,
      ⟨X.admits, X.cas, X.clock, X.frames, X.room, X.hears, X.method, X.code, (X.here.setHeapUsed s₂.heap s₂.slotsUsed).setVm hW'.alike, X.tail, State.WarmedH.trans X.warmed hW', X.limits, X.bytes, X.same.trans (hsame.setVm s.vm)⟩,
      ⟨g, mk, s₂, L, rfl, rfl, hqc, rfl, hL, rfl, rfl⟩, ?_⟩
    show Steps p.tables e below _ ((({ U with heap := s₂.heap, slotsUsed := s₂.slotsUsed } : State).setVm s₂.vm).setTop { g with pc := g.pc + len₂, stack := v.toList ++ g.stack })
    rw [← hs₂]
    exact hsteps
  · obtain ⟨e2, q2, q3, q4, q5, q6⟩ := id hsm
    have e3 : s₂ = ({ (U.calling g mk a).setFrames s₂.frames with heap := s₂.heap, slotsUsed := s₂.slotsUsed } : State).setVm s₂.vm := by
      have : s₂ = ({ s₂ with vm := (U.calling g mk a).vm } : State).setVm s₂.vm := rfl
      rw [e2] at this
      exact this
    have hf₂ : s₂.frames = .throwing q :: .java g :: U.frames.tail := hend
    have hW' : U.WarmedH s₂.vm := hW₂
    have hs₂ : s₂ = ((({ U with heap := s₂.heap, slotsUsed := s₂.slotsUsed } : State).setVm s₂.vm).setTop g).pushFrame (.throwing q) := by
      refine e3.trans ?_
      rw [hf₂, State.calling_eq h.top, State.setFrames_setFrames, State.pushFrame, State.frames_setTop _ hr', State.setTop_of_frames _ hr', State.setFrames_setFrames, hr]
      rfl
    have hsame : U.sameButNew ({ U with heap := s₂.heap, slotsUsed := s₂.slotsUsed } : State) L mc ms := by
      refine ⟨?_, q2, q3, q4, q5, q6⟩
      obtain ⟨t, ht, -⟩ := State.frames_cons hr
      show ({ U with heap := s₂.heap, slotsUsed := s₂.slotsUsed } : State) = { U.setFrames U.frames with heap := s₂.heap, slotsUsed := s₂.slotsUsed }
      rw [State.setFrames_self ht]
    subst hg
    refine Or.inr ⟨q, ⟨(({ U with heap := s₂.heap, slotsUsed := s₂.slotsUsed } : State).setVm s₂.vm), Ls ++ L, c0 + mc, s0 + ms⟩,
      ⟨X.admits, X.cas, X.clock, X.frames, X.room, X.hears, X.method, X.code, (X.here.setHeapUsed s₂.heap s₂.slotsUsed).setVm hW'.alike, X.tail, State.WarmedH.trans X.warmed hW', X.limits, X.bytes, X.same.trans (hsame.setVm s.vm)⟩,
      ⟨g, mk, s₂, L, E, ce, rfl, rfl, hx, hce, hcv, hcl, rfl, hL, rfl, rfl⟩, ?_⟩
    show Steps p.tables e below _ (((({ U with heap := s₂.heap, slotsUsed := s₂.slotsUsed } : State).setVm s₂.vm).setTop g).pushFrame (.throwing q))
    rw [← hs₂]
    exact hsteps
end Payer
section Calls
variable {p : Program} {l : Launch} {e : Env} {R : Room} {s : State} {m : MethodId} {args : Array Value} {below : List Frame} {meth : Method} {c : Code} {T : State} {locs : List Loc} {cells slots : Nat}
theorem vx_callV (X : Stand p l e R s m args below meth c T locs cells slots) (hexec : p.tables.exec = Jvm.exec) {own C : String} {index : Nat} {y : MethodName} {bytes : ByteArray} {maxL : Nat} {ret : Option FieldType}
    (hown : s.vm.findClass own = some m.cls) (hlink : (Cond.methodLink own index y).before args s = true) (hinst : (Cond.instanceMethod y).before args s = true) (hsel : (Cond.selects C y y).before args s = true)
    (hcode : (Cond.code y bytes maxL ret).before args s = true) (hy : y.cls ≠ "java/lang/invoke/MethodHandle" ∧ y.cls ≠ "java/lang/invoke/VarHandle")
    {W9 : Nat} {Pre : Pt → Array Value → Prop} {Post : Pt → Array Value → Option Value → Pt → Prop} {PostX : Pt → Array Value → Addr → Pt → Prop} (hK : vx_Back l R p e below s args y 3 W9 Pre Post PostX)
    {b : Addr} {cellB : Cell} (hcell : T.heap[b]? = some cellB) (hobj : cellB.vm.isStatics = false) (hcls : s.vm.findClass C = some cellB.cls)
    {g : JFrame} (hg : g.method = m) (hsize : g.locals.size = c.maxLocals) {argsL rest : List Value} (hlen : ∀ sig, parseMethodDescriptor y.desc = some sig → argsL.length = sig.parameters.length)
    (hstack : g.stack = argsL.reverse ++ .ref b :: rest) (hW : 2 * g.monitorRoom + (rest.map fun v => v.category).sum ≤ W9) (hdg : decode c.code g.pc = .ok (.invokevirtual index, 3))
    (hpre : ∀ vm₁, s.WarmedH vm₁ → Pre ⟨T.setVm vm₁, locs, cells, slots⟩ (Value.ref b :: argsL).toArray) :
    (∃ (v : Option Value) (vm₁ : Vm) (B : Pt), s.WarmedH vm₁ ∧ Stand p l e R s m args below meth c B.U B.locs B.cells B.slots ∧ Post ⟨T.setVm vm₁, locs, cells, slots⟩ (Value.ref b :: argsL).toArray v B ∧
      ∀ target, Steps p.tables e below (B.U.setTop { g with pc := g.pc + 3, stack := v.toList ++ rest }) target → Steps p.tables e below (T.setTop g) target) ∨
    (∃ (q : Addr) (vm₁ : Vm) (B : Pt), s.WarmedH vm₁ ∧ Stand p l e R s m args below meth c B.U B.locs B.cells B.slots ∧ PostX ⟨T.setVm vm₁, locs, cells, slots⟩ (Value.ref b :: argsL).toArray q B ∧
      Steps p.tables e below (T.setTop g) ((B.U.setTop { g with stack := rest }).pushFrame (.throwing q))) := by
  obtain ⟨mk, methM, hnamed, hmethM, hstM, habM⟩ := Cond.instanceMethod_spec hinst
  obtain ⟨methM', cM, hmethM', -, -, -, -, -, -, hsigM⟩ := Cond.code_spec hnamed hcode
  cases hmethM.symm.trans hmethM'
  obtain ⟨c2, r2, m2, q1, q2, q3, q4, kP, hkP, hkPi⟩ := Cond.selects_spec hsel
  cases hcls.symm.trans q1
  cases (State.methodFound?_of_named hnamed hy).symm.trans q2
  cases hnamed.symm.trans q3
  have hselP : selectMethod e.platform s.vm cellB.cls mk = .method mk := by rw [Launch.admits_selectMethod X.admits]; exact q4
  obtain ⟨vm₁, X₁, hstep₁⟩ := X.invokevirtual hexec hown hlink hnamed hmethM hstM hkP hkPi hy (a := b) (cell := cellB) hcell
    (fun z h => by rw [h] at hobj; cases hobj) hselP hmethM habM hkP hkPi (g := g) hg (argsL := argsL) (rest := rest) (hlen _ hsigM) hstack hdg
  rcases hK m meth c ⟨T.setVm vm₁, locs, cells, slots⟩ { g with stack := rest } (.invokevirtual index) mk (Value.ref b :: argsL).toArray X₁ hg hsize hdg hW (X₁.named hnamed) (hpre vm₁ X₁.warmed) with ⟨v, B, X', hpost, hsteps⟩ | ⟨q, B, X', hpost, hsteps⟩
  · exact Or.inl ⟨v, vm₁, B, X₁.warmed, X', hpost, fun target h => hstep₁ _ fun acts => by rw [doInvoke_state]; exact hsteps.trans h⟩
  · exact Or.inr ⟨q, vm₁, B, X₁.warmed, X', hpost, hstep₁ _ fun acts => by rw [doInvoke_state]; exact hsteps⟩
theorem vx_callS (X : Stand p l e R s m args below meth c T locs cells slots) (hexec : p.tables.exec = Jvm.exec) {own : String} {index : Nat} {y : MethodName} {bytes : ByteArray} {maxL : Nat} {ret : Option FieldType}
    (hown : s.vm.findClass own = some m.cls) (hlink : (Cond.methodLink own index y).before args s = true) (hstat : (Cond.static y).before args s = true) (hinit : (Cond.initialized y.cls).before args s = true)
    (hcode : (Cond.code y bytes maxL ret).before args s = true) (hy : y.cls ≠ "java/lang/invoke/MethodHandle" ∧ y.cls ≠ "java/lang/invoke/VarHandle")
    {W9 : Nat} {Pre : Pt → Array Value → Prop} {Post : Pt → Array Value → Option Value → Pt → Prop} {PostX : Pt → Array Value → Addr → Pt → Prop} (hK : vx_Back l R p e below s args y 3 W9 Pre Post PostX)
    {g : JFrame} (hg : g.method = m) (hsize : g.locals.size = c.maxLocals) {argsL rest : List Value} (hlen : ∀ sig, parseMethodDescriptor y.desc = some sig → argsL.length = sig.parameters.length)
    (hstack : g.stack = argsL.reverse ++ rest) (hW : 2 * g.monitorRoom + (rest.map fun v => v.category).sum ≤ W9) (hdg : decode c.code g.pc = .ok (.invokestatic index, 3))
    (hpre : ∀ vm₁, s.WarmedH vm₁ → Pre ⟨T.setVm vm₁, locs, cells, slots⟩ argsL.toArray) :
    (∃ (v : Option Value) (vm₁ : Vm) (B : Pt), s.WarmedH vm₁ ∧ Stand p l e R s m args below meth c B.U B.locs B.cells B.slots ∧ Post ⟨T.setVm vm₁, locs, cells, slots⟩ argsL.toArray v B ∧
      ∀ target, Steps p.tables e below (B.U.setTop { g with pc := g.pc + 3, stack := v.toList ++ rest }) target → Steps p.tables e below (T.setTop g) target) ∨
    (∃ (q : Addr) (vm₁ : Vm) (B : Pt), s.WarmedH vm₁ ∧ Stand p l e R s m args below meth c B.U B.locs B.cells B.slots ∧ PostX ⟨T.setVm vm₁, locs, cells, slots⟩ argsL.toArray q B ∧
      Steps p.tables e below (T.setTop g) ((B.U.setTop { g with stack := rest }).pushFrame (.throwing q))) := by
  obtain ⟨mk, hnamed⟩ := Cond.code_named hcode
  obtain ⟨methM, cM, hmethM, -, -, -, -, -, -, hsigM⟩ := Cond.code_spec hnamed hcode
  have hstatic : methM.isStatic = true := Cond.static_spec hnamed hmethM hstat
  obtain ⟨kP, hkP, -⟩ := className_of_methodNamed hnamed
  have hinitP : kP.init = .initialized := Cond.initialized_spec (findClass_of_methodNamed hnamed) hkP hinit
  obtain ⟨vm₁, X₁, hstep₁⟩ := X.invokestatic hexec hown hlink hnamed hmethM hstatic hkP hinitP hy (g := g) hg (argsL := argsL) (rest := rest) (hlen _ hsigM) hstack hdg
  rcases hK m meth c ⟨T.setVm vm₁, locs, cells, slots⟩ { g with stack := rest } (.invokestatic index) mk argsL.toArray X₁ hg hsize hdg hW (X₁.named hnamed) (hpre vm₁ X₁.warmed) with ⟨v, B, X', hpost, hsteps⟩ | ⟨q, B, X', hpost, hsteps⟩
  · exact Or.inl ⟨v, vm₁, B, X₁.warmed, X', hpost, fun target h => hstep₁ _ fun acts => by rw [doInvoke_state]; exact hsteps.trans h⟩
  · exact Or.inr ⟨q, vm₁, B, X₁.warmed, X', hpost, hstep₁ _ fun acts => by rw [doInvoke_state]; exact hsteps⟩
end Calls
theorem vx_cls {s : State} {T : State} {vm₁ : Vm} {E : String} {k : ClassId} (hW : s.WarmedH vm₁) (h : (T.setVm vm₁).vm.findClass E = some k) : s.vm.findClass E = some k := by
  have h1 : vm₁.findClass E = some k := h
  rw [hW.alike.findClass] at h1
  exact h1
/-- the method's frame g, with q thrown over it -/
def vx_W (p : Program) (l : Launch) (e : Env) (R : Room) (s : State) (m : MethodId) (args : Array Value) (below : List Frame) (meth : Method) (c : Code) (H : Heap) (locs : List Loc) (cells slots : Nat) (Q : State → Prop) (g : JFrame) (q : Addr) : Prop :=
  ∀ T : State, T.heap = H → Stand p l e R s m args below meth c T locs cells slots → ∃ t, Steps p.tables e below ((T.setTop g).pushFrame (.throwing q)) t ∧ Q t
def vx_Run (p : Program) (l : Launch) (e : Env) (R : Room) (s : State) (m : MethodId) (args : Array Value) (below : List Frame) (meth : Method) (c : Code) (H : Heap) (locs : List Loc) (cells slots mc ms : Nat) (g : JFrame) (rest : List Value) (Qa : State → Outcome → State → Prop) (XC : String → State → State → Prop) (free : Addr → Prop) : Prop :=
  ∀ T : State, T.heap = H → Stand p l e R s m args below meth c T locs cells slots →
    (∃ (v : Option Value) (st₀ t T' : State) (L : List Loc), st₀.heap = H ∧ Stand p l e R s m args below meth c T' (locs ++ L) (cells + mc) (slots + ms) ∧ (∀ q ∈ L, free q.base) ∧ T'.heap = t.heap ∧ T'.vm = t.vm ∧ Qa st₀ (.returned v) t ∧
      Goes p e below T g T' { g with pc := g.pc + 3, stack := v.toList ++ rest }) ∨
    (∃ (q : Addr) (st₀ t T' : State) (L : List Loc) (E : String) (ce : Cell), st₀.heap = H ∧ Stand p l e R s m args below meth c T' (locs ++ L) (cells + mc) (slots + ms) ∧ (∀ z ∈ L, free z.base) ∧ T'.heap = t.heap ∧ T'.vm = t.vm ∧ XC E st₀ t ∧ t.heap[q]? = some ce ∧ ce.vm = .none ∧ s.vm.findClass E = some ce.cls ∧
      Steps p.tables e below (T.setTop g) ((T'.setTop { g with stack := rest }).pushFrame (.throwing q)))
def vx_X {S : Type} (px : S → Prop) (B : String → S → State → Prop) (A : Nat → Prop) : String → State → State → Prop := fun E st t => ∃ u : S, px u ∧ B E u t ∧ va_F A st t
section Runs
variable {p : Program} {l : Launch} {e : Env} {R : Room} {s : State} {m : MethodId} {args : Array Value} {below : List Frame} {meth : Method} {c : Code} {H : Heap} {locs : List Loc} {cells slots : Nat}
variable {y : MethodName} {bytes cc : ByteArray} {maxL nL mc ms n index : Nat} {ret : Option FieldType} {ws : List Cond} {rm : Room} {Pc : Array Value → State → Prop} {Qc : Array Value → State → Outcome → State → Prop} {XC : String → State → State → Prop} {free : Addr → Prop} {Ts : List Cond} {own C : String} {b : Addr} {As rest : List Value} {g : JFrame}
theorem vx_callBack (cb : CallB R s args own index y bytes maxL ret ws rm mc ms n) (hM : vx_Met l y ws rm Pc Qc XC mc ms free) (hbl : FrameBlind Pc) : vx_Back l R p e below s args y 3 8 (PreOf R mc ms Pc) (PostOf Qc mc ms free) (vx_Post XC mc ms free) := by
  obtain ⟨hrc, hrs, hfr, hlo, hws, hcw, -, hini, -⟩ := cb
  exact vx_back (bytes := bytes) (maxL := maxL) (ret := ret) hM hbl hrc hrs hfr hlo hws hcw (fun a' U hW => word_at hW (Or.inl (by first | rfl | simp [Cond.onTables, Cond.keeps, Cond.steady])) hini)
theorem vx_runV (S : CallFix p m c cc nL s args Ts own) (hM : vx_Met l y ws rm Pc Qc XC mc ms free) (cw : CallW R s args own C index y bytes maxL ret ws rm mc ms n) (hp : PreV s H C b Pc As)
    (hg : g.method = m) (hn : As.length = n) (hsize : g.locals.size = nL) (hstack : g.stack = As.reverse ++ .ref b :: rest) (hW : 2 * g.monitorRoom + (rest.map fun v => v.category).sum ≤ 8) (hdg : decode cc g.pc = .ok (.invokevirtual index, 3)) (hf : cells + mc ≤ R.cells ∧ slots + ms ≤ R.slots) :
    vx_Run p l e R s m args below meth c H locs cells slots mc ms g rest (Qc (Value.ref b :: As).toArray) XC free := by
  have hK : vx_Back l R p e below s args y 3 8 (PreOf R mc ms Pc) (PostOf Qc mc ms free) (vx_Post XC mc ms free) := vx_callBack cw.1 hM hp.1
  obtain ⟨⟨-, -, -, -, -, -, hcode, -, hy, hlen, hl⟩, hin, hse⟩ := cw
  obtain ⟨hx, hb, hml, ho, -⟩ := S
  obtain ⟨-, ⟨cellB, hcB, hoB, hclB⟩, hPc⟩ := hp
  intro T hT X
  rcases vx_callV X hx (C := C) (bytes := bytes) (maxL := maxL) (ret := ret) ho hl hin hse hcode hy hK (by rw [hT]; exact hcB) hoB hclB hg (hsize.trans hml.symm) (argsL := As) (rest := rest) (fun sig h => hn.trans (hlen sig h)) hstack hW (by rw [hb]; exact hdg)
    (fun vm₁ hW₁ => ⟨hf.1, hf.2, hPc (T.setVm vm₁) hT hW₁⟩) with ⟨v, vm₁, ⟨U', l2, c2, s2⟩, hW₁, X', ⟨g', mk, t, L, e1, e2, hq, h1, hL, h2, h3⟩, st⟩ | ⟨q, vm₁, ⟨U', l2, c2, s2⟩, hW₁, X', ⟨g', mk, t, L, E, ce, e1, e2, hq, hce, hcv, hcl, h1, hL, h2, h3⟩, st⟩
  · dsimp only [Pt.U, Pt.locs, Pt.cells, Pt.slots] at X' e1 e2 h1 h2 h3 st
    subst h1; subst h2; subst h3
    exact Or.inl ⟨v, (T.setVm vm₁).calling g' mk (Value.ref b :: As).toArray, t, U', L, hT, X', hL, e1, e2, hq, st⟩
  · dsimp only [Pt.U, Pt.locs, Pt.cells, Pt.slots] at X' e1 e2 h1 h2 h3 st hcl
    subst h1; subst h2; subst h3
    exact Or.inr ⟨q, (T.setVm vm₁).calling g' mk (Value.ref b :: As).toArray, t, U', L, E, ce, hT, X', hL, e1, e2, hq, hce, hcv, vx_cls hW₁ hcl, st⟩
theorem vx_runS (S : CallFix p m c cc nL s args Ts own) (hM : vx_Met l y ws rm Pc Qc XC mc ms free) (cw : CallB R s args own index y bytes maxL ret ws rm mc ms n ∧ (Cond.static y).before args s = true) (hp : PreS s H Pc As)
    (hg : g.method = m) (hn : As.length = n) (hsize : g.locals.size = nL) (hstack : g.stack = As.reverse ++ rest) (hW : 2 * g.monitorRoom + (rest.map fun v => v.category).sum ≤ 8) (hdg : decode cc g.pc = .ok (.invokestatic index, 3)) (hf : cells + mc ≤ R.cells ∧ slots + ms ≤ R.slots) :
    vx_Run p l e R s m args below meth c H locs cells slots mc ms g rest (Qc As.toArray) XC free := by
  have hK : vx_Back l R p e below s args y 3 8 (PreOf R mc ms Pc) (PostOf Qc mc ms free) (vx_Post XC mc ms free) := vx_callBack cw.1 hM hp.1
  obtain ⟨⟨-, -, -, -, -, -, hcode, hini, hy, hlen, hl⟩, hstt⟩ := cw
  obtain ⟨hx, hb, hml, ho, -⟩ := S
  intro T hT X
  rcases vx_callS X hx (bytes := bytes) (maxL := maxL) (ret := ret) ho hl hstt hini hcode hy hK hg (hsize.trans hml.symm) (argsL := As) (rest := rest) (fun sig h => hn.trans (hlen sig h)) hstack hW (by rw [hb]; exact hdg)
    (fun vm₁ hW₁ => ⟨hf.1, hf.2, hp.2 (T.setVm vm₁) hT hW₁⟩) with ⟨v, vm₁, ⟨U', l2, c2, s2⟩, hW₁, X', ⟨g', mk, t, L, e1, e2, hq, h1, hL, h2, h3⟩, st⟩ | ⟨q, vm₁, ⟨U', l2, c2, s2⟩, hW₁, X', ⟨g', mk, t, L, E, ce, e1, e2, hq, hce, hcv, hcl, h1, hL, h2, h3⟩, st⟩
  · dsimp only [Pt.U, Pt.locs, Pt.cells, Pt.slots] at X' e1 e2 h1 h2 h3 st
    subst h1; subst h2; subst h3
    exact Or.inl ⟨v, (T.setVm vm₁).calling g' mk As.toArray, t, U', L, hT, X', hL, e1, e2, hq, st⟩
  · dsimp only [Pt.U, Pt.locs, Pt.cells, Pt.slots] at X' e1 e2 h1 h2 h3 st hcl
    subst h1; subst h2; subst h3
    exact Or.inr ⟨q, (T.setVm vm₁).calling g' mk As.toArray, t, U', L, E, ce, hT, X', hL, e1, e2, hq, hce, hcv, vx_cls hW₁ hcl, st⟩
end Runs
section Rows
variable {p : Program} {l : Launch} {e : Env} {R : Room} {s : State} {m : MethodId} {args : Array Value} {below : List Frame} {meth : Method} {c : Code} {H : Heap} {locs : List Loc} {cells slots : Nat} {Q : State → Prop}
variable {mc ms : Nat} {free : Addr → Prop} {A0 A1 : Nat → Prop} {H0 : Heap} {a : Array Value} {pc : Nat} {ls : Array Slot} {st0 rest : List Value}
theorem vx_keep {st₀ t T' : State} {L : List Loc} (h0 : st₀.heap = H) (e1 : T'.heap = t.heap) (hS : va_S A0 H0 H locs) (hA : ∀ q, q < H.size → A1 q → A0 q) (hf : ∀ q, free q → A0 q) (hL : ∀ q ∈ L, free q.base) (hF : va_F A1 st₀ t) :
    H.size ≤ T'.heap.size ∧ (∀ q : Nat, q < H.size → ¬ A1 q → T'.heap[q]? = H[q]?) ∧ va_S A0 H0 T'.heap (locs ++ L) := by
  obtain ⟨hz, hk⟩ := hF
  rw [h0] at hz hk
  exact ⟨by rw [e1]; exact hz, fun q h1 h2 => by rw [e1]; exact hk q h1 h2,
    ⟨Nat.le_trans hS.1 (by rw [e1]; exact hz), fun q h1 h2 => by rw [e1, hk q (Nat.lt_of_lt_of_le h1 hS.1) (fun z => h2 (hA q (Nat.lt_of_lt_of_le h1 hS.1) z))]; exact hS.2.1 q h1 h2, fun q hq => by
      rcases List.mem_append.mp hq with h | h
      · exact hS.2.2 q h
      · exact hf _ (hL q h)⟩⟩
theorem vx_calli {S SX : Type} {post : Int32 → S → Prop} {px : SX → Prop} {B : S → State → Prop} {BX : String → SX → State → Prop} {AX : Nat → Prop} (hr : vx_Run p l e R s m args below meth c H locs cells slots mc ms (F0 m pc ls st0) rest (va_Qi post B A1 a) (vx_X px BX AX) free) (hS : va_S A0 H0 H locs) (hA : ∀ q, q < H.size → A1 q → A0 q) (hf : ∀ q, free q → A0 q) (hAX : ∀ q, q < H.size → AX q → A0 q)
    (kx : ∀ (E : String) (ce : Cell) (q9 : Addr) (u : SX) (t : State) (H1 : Heap) (locs1 : List Loc), t.heap = H1 → s.vm.Alike t.vm → px u → BX E u t → H.size ≤ H1.size → (∀ q : Nat, q < H.size → ¬ AX q → H1[q]? = H[q]?) → va_S A0 H0 H1 locs1 → H1[q9]? = some ce → ce.vm = .none → s.vm.findClass E = some ce.cls → vx_W p l e R s m args below meth c H1 locs1 (cells + mc) (slots + ms) Q (F0 m pc ls rest) q9)
    (kk : ∀ (r : Int32) (u : S) (t : State) (H1 : Heap) (locs1 : List Loc), t.heap = H1 → s.vm.Alike t.vm → post r u → B u t → H.size ≤ H1.size → (∀ q : Nat, q < H.size → ¬ A1 q → H1[q]? = H[q]?) → va_S A0 H0 H1 locs1 → W p l e R s m args below meth c H1 locs1 (cells + mc) (slots + ms) Q (F0 m (pc + 3) ls (.int r :: rest))) : W p l e R s m args below meth c H locs cells slots Q (F0 m pc ls st0) := by
  intro T hT X
  rcases hr T hT X with ⟨v, st₀, t, T', L, h0, X', hL, e1, e2, ⟨⟨r, u, hv, hp, hb⟩, hF⟩, st⟩ | ⟨q, st₀, t, T', L, E, ce, h0, X', hL, e1, e2, ⟨u, hp, hb, hF⟩, hce, hcv, hcl, st⟩
  · cases hv
    obtain ⟨k1, k2, k3⟩ := vx_keep h0 e1 hS hA hf hL hF
    obtain ⟨t2, a1, b1⟩ := kk r u t T'.heap (locs ++ L) e1.symm (by rw [← e2]; exact X'.warmed.alike) hp hb k1 k2 k3 T' rfl X'
    exact ⟨t2, st t2 a1, b1⟩
  · obtain ⟨k1, k2, k3⟩ := vx_keep h0 e1 hS hAX hf hL hF
    obtain ⟨t2, a1, b1⟩ := kx E ce q u t T'.heap (locs ++ L) e1.symm (by rw [← e2]; exact X'.warmed.alike) hp hb k1 k2 k3 (by rw [e1]; exact hce) hcv hcl T' rfl X'
    exact ⟨t2, st.trans a1, b1⟩
theorem vx_calll {S SX : Type} {post : Int64 → S → Prop} {px : SX → Prop} {B : S → State → Prop} {BX : String → SX → State → Prop} {AX : Nat → Prop} (hr : vx_Run p l e R s m args below meth c H locs cells slots mc ms (F0 m pc ls st0) rest (va_Ql post B A1 a) (vx_X px BX AX) free) (hS : va_S A0 H0 H locs) (hA : ∀ q, q < H.size → A1 q → A0 q) (hf : ∀ q, free q → A0 q) (hAX : ∀ q, q < H.size → AX q → A0 q)
    (kx : ∀ (E : String) (ce : Cell) (q9 : Addr) (u : SX) (t : State) (H1 : Heap) (locs1 : List Loc), t.heap = H1 → s.vm.Alike t.vm → px u → BX E u t → H.size ≤ H1.size → (∀ q : Nat, q < H.size → ¬ AX q → H1[q]? = H[q]?) → va_S A0 H0 H1 locs1 → H1[q9]? = some ce → ce.vm = .none → s.vm.findClass E = some ce.cls → vx_W p l e R s m args below meth c H1 locs1 (cells + mc) (slots + ms) Q (F0 m pc ls rest) q9)
    (kk : ∀ (r : Int64) (u : S) (t : State) (H1 : Heap) (locs1 : List Loc), t.heap = H1 → s.vm.Alike t.vm → post r u → B u t → H.size ≤ H1.size → (∀ q : Nat, q < H.size → ¬ A1 q → H1[q]? = H[q]?) → va_S A0 H0 H1 locs1 → W p l e R s m args below meth c H1 locs1 (cells + mc) (slots + ms) Q (F0 m (pc + 3) ls (.long r :: rest))) : W p l e R s m args below meth c H locs cells slots Q (F0 m pc ls st0) := by
  intro T hT X
  rcases hr T hT X with ⟨v, st₀, t, T', L, h0, X', hL, e1, e2, ⟨⟨r, u, hv, hp, hb⟩, hF⟩, st⟩ | ⟨q, st₀, t, T', L, E, ce, h0, X', hL, e1, e2, ⟨u, hp, hb, hF⟩, hce, hcv, hcl, st⟩
  · cases hv
    obtain ⟨k1, k2, k3⟩ := vx_keep h0 e1 hS hA hf hL hF
    obtain ⟨t2, a1, b1⟩ := kk r u t T'.heap (locs ++ L) e1.symm (by rw [← e2]; exact X'.warmed.alike) hp hb k1 k2 k3 T' rfl X'
    exact ⟨t2, st t2 a1, b1⟩
  · obtain ⟨k1, k2, k3⟩ := vx_keep h0 e1 hS hAX hf hL hF
    obtain ⟨t2, a1, b1⟩ := kx E ce q u t T'.heap (locs ++ L) e1.symm (by rw [← e2]; exact X'.warmed.alike) hp hb k1 k2 k3 (by rw [e1]; exact hce) hcv hcl T' rfl X'
    exact ⟨t2, st.trans a1, b1⟩
theorem vx_callf {S SX : Type} {post : UInt32 → S → Prop} {px : SX → Prop} {B : S → State → Prop} {BX : String → SX → State → Prop} {AX : Nat → Prop} (hr : vx_Run p l e R s m args below meth c H locs cells slots mc ms (F0 m pc ls st0) rest (va_Qf post B A1 a) (vx_X px BX AX) free) (hS : va_S A0 H0 H locs) (hA : ∀ q, q < H.size → A1 q → A0 q) (hf : ∀ q, free q → A0 q) (hAX : ∀ q, q < H.size → AX q → A0 q)
    (kx : ∀ (E : String) (ce : Cell) (q9 : Addr) (u : SX) (t : State) (H1 : Heap) (locs1 : List Loc), t.heap = H1 → s.vm.Alike t.vm → px u → BX E u t → H.size ≤ H1.size → (∀ q : Nat, q < H.size → ¬ AX q → H1[q]? = H[q]?) → va_S A0 H0 H1 locs1 → H1[q9]? = some ce → ce.vm = .none → s.vm.findClass E = some ce.cls → vx_W p l e R s m args below meth c H1 locs1 (cells + mc) (slots + ms) Q (F0 m pc ls rest) q9)
    (kk : ∀ (r : UInt32) (u : S) (t : State) (H1 : Heap) (locs1 : List Loc), t.heap = H1 → s.vm.Alike t.vm → post r u → B u t → H.size ≤ H1.size → (∀ q : Nat, q < H.size → ¬ A1 q → H1[q]? = H[q]?) → va_S A0 H0 H1 locs1 → W p l e R s m args below meth c H1 locs1 (cells + mc) (slots + ms) Q (F0 m (pc + 3) ls (.float r :: rest))) : W p l e R s m args below meth c H locs cells slots Q (F0 m pc ls st0) := by
  intro T hT X
  rcases hr T hT X with ⟨v, st₀, t, T', L, h0, X', hL, e1, e2, ⟨⟨r, u, hv, hp, hb⟩, hF⟩, st⟩ | ⟨q, st₀, t, T', L, E, ce, h0, X', hL, e1, e2, ⟨u, hp, hb, hF⟩, hce, hcv, hcl, st⟩
  · cases hv
    obtain ⟨k1, k2, k3⟩ := vx_keep h0 e1 hS hA hf hL hF
    obtain ⟨t2, a1, b1⟩ := kk r u t T'.heap (locs ++ L) e1.symm (by rw [← e2]; exact X'.warmed.alike) hp hb k1 k2 k3 T' rfl X'
    exact ⟨t2, st t2 a1, b1⟩
  · obtain ⟨k1, k2, k3⟩ := vx_keep h0 e1 hS hAX hf hL hF
    obtain ⟨t2, a1, b1⟩ := kx E ce q u t T'.heap (locs ++ L) e1.symm (by rw [← e2]; exact X'.warmed.alike) hp hb k1 k2 k3 (by rw [e1]; exact hce) hcv hcl T' rfl X'
    exact ⟨t2, st.trans a1, b1⟩
theorem vx_calld {S SX : Type} {post : UInt64 → S → Prop} {px : SX → Prop} {B : S → State → Prop} {BX : String → SX → State → Prop} {AX : Nat → Prop} (hr : vx_Run p l e R s m args below meth c H locs cells slots mc ms (F0 m pc ls st0) rest (va_Qd post B A1 a) (vx_X px BX AX) free) (hS : va_S A0 H0 H locs) (hA : ∀ q, q < H.size → A1 q → A0 q) (hf : ∀ q, free q → A0 q) (hAX : ∀ q, q < H.size → AX q → A0 q)
    (kx : ∀ (E : String) (ce : Cell) (q9 : Addr) (u : SX) (t : State) (H1 : Heap) (locs1 : List Loc), t.heap = H1 → s.vm.Alike t.vm → px u → BX E u t → H.size ≤ H1.size → (∀ q : Nat, q < H.size → ¬ AX q → H1[q]? = H[q]?) → va_S A0 H0 H1 locs1 → H1[q9]? = some ce → ce.vm = .none → s.vm.findClass E = some ce.cls → vx_W p l e R s m args below meth c H1 locs1 (cells + mc) (slots + ms) Q (F0 m pc ls rest) q9)
    (kk : ∀ (r : UInt64) (u : S) (t : State) (H1 : Heap) (locs1 : List Loc), t.heap = H1 → s.vm.Alike t.vm → post r u → B u t → H.size ≤ H1.size → (∀ q : Nat, q < H.size → ¬ A1 q → H1[q]? = H[q]?) → va_S A0 H0 H1 locs1 → W p l e R s m args below meth c H1 locs1 (cells + mc) (slots + ms) Q (F0 m (pc + 3) ls (.double r :: rest))) : W p l e R s m args below meth c H locs cells slots Q (F0 m pc ls st0) := by
  intro T hT X
  rcases hr T hT X with ⟨v, st₀, t, T', L, h0, X', hL, e1, e2, ⟨⟨r, u, hv, hp, hb⟩, hF⟩, st⟩ | ⟨q, st₀, t, T', L, E, ce, h0, X', hL, e1, e2, ⟨u, hp, hb, hF⟩, hce, hcv, hcl, st⟩
  · cases hv
    obtain ⟨k1, k2, k3⟩ := vx_keep h0 e1 hS hA hf hL hF
    obtain ⟨t2, a1, b1⟩ := kk r u t T'.heap (locs ++ L) e1.symm (by rw [← e2]; exact X'.warmed.alike) hp hb k1 k2 k3 T' rfl X'
    exact ⟨t2, st t2 a1, b1⟩
  · obtain ⟨k1, k2, k3⟩ := vx_keep h0 e1 hS hAX hf hL hF
    obtain ⟨t2, a1, b1⟩ := kx E ce q u t T'.heap (locs ++ L) e1.symm (by rw [← e2]; exact X'.warmed.alike) hp hb k1 k2 k3 (by rw [e1]; exact hce) hcv hcl T' rfl X'
    exact ⟨t2, st.trans a1, b1⟩
theorem vx_callv {S SX : Type} {post : S → Prop} {px : SX → Prop} {B : S → State → Prop} {BX : String → SX → State → Prop} {AX : Nat → Prop} (hr : vx_Run p l e R s m args below meth c H locs cells slots mc ms (F0 m pc ls st0) rest (va_Qv post B A1 a) (vx_X px BX AX) free) (hS : va_S A0 H0 H locs) (hA : ∀ q, q < H.size → A1 q → A0 q) (hf : ∀ q, free q → A0 q) (hAX : ∀ q, q < H.size → AX q → A0 q)
    (kx : ∀ (E : String) (ce : Cell) (q9 : Addr) (u : SX) (t : State) (H1 : Heap) (locs1 : List Loc), t.heap = H1 → s.vm.Alike t.vm → px u → BX E u t → H.size ≤ H1.size → (∀ q : Nat, q < H.size → ¬ AX q → H1[q]? = H[q]?) → va_S A0 H0 H1 locs1 → H1[q9]? = some ce → ce.vm = .none → s.vm.findClass E = some ce.cls → vx_W p l e R s m args below meth c H1 locs1 (cells + mc) (slots + ms) Q (F0 m pc ls rest) q9)
    (kk : ∀ (u : S) (t : State) (H1 : Heap) (locs1 : List Loc), t.heap = H1 → s.vm.Alike t.vm → post u → B u t → H.size ≤ H1.size → (∀ q : Nat, q < H.size → ¬ A1 q → H1[q]? = H[q]?) → va_S A0 H0 H1 locs1 → W p l e R s m args below meth c H1 locs1 (cells + mc) (slots + ms) Q (F0 m (pc + 3) ls (rest))) : W p l e R s m args below meth c H locs cells slots Q (F0 m pc ls st0) := by
  intro T hT X
  rcases hr T hT X with ⟨v, st₀, t, T', L, h0, X', hL, e1, e2, ⟨⟨u, hv, hp, hb⟩, hF⟩, st⟩ | ⟨q, st₀, t, T', L, E, ce, h0, X', hL, e1, e2, ⟨u, hp, hb, hF⟩, hce, hcv, hcl, st⟩
  · cases hv
    obtain ⟨k1, k2, k3⟩ := vx_keep h0 e1 hS hA hf hL hF
    obtain ⟨t2, a1, b1⟩ := kk u t T'.heap (locs ++ L) e1.symm (by rw [← e2]; exact X'.warmed.alike) hp hb k1 k2 k3 T' rfl X'
    exact ⟨t2, st t2 a1, b1⟩
  · obtain ⟨k1, k2, k3⟩ := vx_keep h0 e1 hS hAX hf hL hF
    obtain ⟨t2, a1, b1⟩ := kx E ce q u t T'.heap (locs ++ L) e1.symm (by rw [← e2]; exact X'.warmed.alike) hp hb k1 k2 k3 (by rw [e1]; exact hce) hcv hcl T' rfl X'
    exact ⟨t2, st.trans a1, b1⟩
/-- caught by the row x of this method's table; the rows ahead don't take it -/
theorem vx_catch {own name : String} {E : String} {ce : Cell} {q : Addr} (hown : s.vm.findClass own = some m.cls) (pre : List ExceptionTableEntry) (x : ExceptionTableEntry) (suf : List ExceptionTableEntry) (hsplit : c.exceptionTable.toList = pre ++ x :: suf)
    (hpass : ∀ z ∈ pre, covers z pc = false ∨ (z.catchType ≠ 0 ∧ ∃ nm : String, (Cond.classLink own z.catchType nm).before args s = true ∧ va_Nc E nm s)) (hx : covers x pc = true) (h0 : x.catchType ≠ 0)
    (hlink : (Cond.classLink own x.catchType name).before args s = true) (hcast : (Cond.castable E name).before args s = true) (hcell : H[q]? = some ce) (hv : ce.vm = .none) (hcl : s.vm.findClass E = some ce.cls)
    (kk : W p l e R s m args below meth c H locs cells slots Q (F0 m x.handlerPc ls [.ref q])) : vx_W p l e R s m args below meth c H locs cells slots Q (F0 m pc ls rest) q := by
  intro T hT X
  have hpl : e.platform.magicAccessors = ({} : Platform).magicAccessors := by rw [X.admits.platform]
  obtain ⟨c3, c4, hc3, hc4, hasg⟩ := Cond.castable_spec hcast
  cases Option.some.inj (hc3.symm.trans hcl)
  obtain ⟨c5, hc5, hcl5⟩ := Cond.classLink_spec hown hlink e.platform hpl
  cases Option.some.inj (hc4.symm.trans hc5)
  obtain ⟨vm', X', st⟩ := X.thenCaughtThrough q (g := F0 m pc ls rest) rfl (Steps.refl _) (by rw [hT]; exact hcell) (by rw [hv]; rfl) (by obtain ⟨k9, h9, -⟩ := Vm.findClass_spec hcl; exact ⟨k9, h9⟩) pre x suf hsplit
    (fun z hz => by
      rcases hpass z hz with h | ⟨hz0, nm, hl1, hn1⟩
      · exact Or.inl h
      · obtain ⟨c6, hc6, hcl6⟩ := Cond.classLink_spec hown hl1 e.platform hpl
        obtain ⟨a8, b8, h1, h2, h3⟩ := hn1
        cases Option.some.inj (h1.symm.trans hcl)
        cases Option.some.inj (h2.symm.trans hc6)
        exact Or.inr ⟨hz0, _, hcl6, h3⟩) hx (Or.inr ⟨h0, c4, hcl5, hasg⟩)
  obtain ⟨t, a1, b1⟩ := kk (T.setVm vm') hT X'
  exact ⟨t, st.trans a1, b1⟩
end Rows
section Ends
variable {p : Program} {l : Launch} {e : Env} {R : Room} {s : State} {m : MethodId} {args : Array Value} {below : List Frame} {meth : Method} {c : Code} {H : Heap} {locs : List Loc} {cells slots : Nat} {Q : State → Prop}
variable {mc ms : Nat} {free : Addr → Prop} {A0 A1 : Nat → Prop} {H0 : Heap} {a : Array Value} {ls : Array Slot} {st0 rest : List Value}
variable {Qc : Array Value → State → Outcome → State → Prop} {XC : String → State → State → Prop}
/-- what a body that may throw owes at its end -/
def vx_MQ (below : List Frame) (Qc : Array Value → State → Outcome → State → Prop) (XC : String → State → State → Prop) (a : Array Value) (s : State) (mc ms : Nat) (free : Addr → Prop) : State → Prop := fun t =>
  ∃ o, t.status = .running ∧ Ended t below o ∧ vx_Q Qc XC mc ms free a s o t
theorem vx_ret {g : JFrame} {mc ms : Nat} (k : W p l e R s m args below meth c H locs cells slots (MQ below Qc args s mc ms free) g) : W p l e R s m args below meth c H locs cells slots (vx_MQ below Qc XC args s mc ms free) g := by
  intro T hT X
  obtain ⟨t, a1, o, b1, b2, b3, b4⟩ := k T hT X
  exact ⟨t, a1, o, b1, b2, Or.inl ⟨b3, b4⟩⟩
/-- not caught here: it goes on to the caller -/
theorem vx_widen {g : JFrame} {q : Addr} {k n : Nat} (h1 : cells ≤ k) (h2 : slots ≤ n) (kk : vx_W p l e R s m args below meth c H locs k n Q g q) : vx_W p l e R s m args below meth c H locs cells slots Q g q := fun T hT X => kk T hT (stand_widen X h1 h2)
theorem vx_out {pc : Nat} {E : String} {ce : Cell} {q : Addr} {mc ms : Nat} (hout : ∀ x ∈ c.exceptionTable.toList, covers x pc = false) (hlocks : meth.locks = false) (hcell : H[q]? = some ce) (hv : ce.vm = .none) (hcl : s.vm.findClass E = some ce.cls)
    (hx : ∀ t : State, t.heap = H → s.vm.Alike t.vm → XC E s t) (hf : ∀ z ∈ locs, free z.base) (hc : cells ≤ mc) (hs : slots ≤ ms) :
    vx_W p l e R s m args below meth c H locs cells slots (vx_MQ below Qc XC args s mc ms free) (F0 m pc ls rest) q := by
  intro T hT X
  obtain ⟨st1, hrun, hend, hW, hsm⟩ := X.leaveThrown q (g := F0 m pc ls rest) rfl rfl rfl hout hlocks
  have hcell9 : (T.setFrames (.throwing q :: below)).heap[q]? = some ce := by
    show T.heap[q]? = some ce
    rw [hT]; exact hcell
  exact ⟨_, st1, .threw q, hrun, hend, Or.inr ⟨q, rfl, E, ce, locs, hx _ hT hW.alike, hcell9, hv, hcl, hW, hsm.mono hc hs, hf⟩⟩
theorem vx_frame {U : State} {k n : Nat} (h : s.sameButNew ({ U with vm := s.vm } : State) locs k n) : s.heap.size ≤ U.heap.size ∧ ∀ q : Nat, q < s.heap.size → (∀ z ∈ locs, z.base ≠ q) → U.heap[q]? = s.heap[q]? := by
  obtain ⟨-, h2, -, -, -, h6⟩ := h
  refine ⟨h2, fun q hq hz => ?_⟩
  obtain ⟨c9, e1, e2, e3, e4⟩ := h6 q _ (Array.getElem?_eq_getElem hq)
  have hs : c9.slots = (s.heap[q]).slots := Array.ext_getElem? fun i => e4 i fun hm => hz _ hm rfl
  have h9 : c9 = s.heap[q] := by
    rw [hs] at e2
    exact e2
  have e5 : U.heap[q]? = some c9 := e1
  rw [e5, h9, Array.getElem?_eq_getElem hq]
/-- the words of a throw but the four that speak of the heap -/
def vx_no (w : Cond) : Bool := decide (w ≠ .isRef (.static Bundle.tN "UNASSIGNED_STACK" Bundle.steD)) && decide (w ≠ .isRef (.static Bundle.tN "SUPPRESSED_SENTINEL" Bundle.listD)) && decide (w ≠ .laysStatic Bundle.tN "UNASSIGNED_STACK" Bundle.steD) && decide (w ≠ .laysStatic Bundle.tN "SUPPRESSED_SENTINEL" Bundle.listD)
def vx_at0 (own : String) (ic : Nat) (X : String) (names : List String) : List Cond := (Bundle.ownAtoms0 own ic X names).filter vx_no
def vx_atS (own : String) (ic : Nat) (X : String) (names : List String) : List Cond := (Bundle.ownAtoms own ic X names).filter vx_no
/-- a word that the tables alone decide, or a good one -/
def vx_ot (w : Cond) : Bool := w.onTables || goodWord w
theorem vx_ot_at {args a' : Array Value} {s U : State} {w : Cond} (hW : s.WarmedH U.vm) (hvm : s.vm = U.vm) (hg : vx_ot w = true) (h : w.before args s = true) : w.before a' U = true := by
  simp only [vx_ot, Bool.or_eq_true] at hg
  rcases hg with hg | hg
  · exact va_tabs hg hvm h
  · exact word_at hW (good_of_word hg) h
/-- a list's words: the good ones out of the method's own list, the others by premises of their own -/
theorem vx_hat {args : Array Value} {s : State} {L B : List Cond} (h1 : ∀ w ∈ L.filter goodWord, w.before args s = true) (h2 : ∀ w ∈ L.filter (fun w => !goodWord w), w ∈ B) (h3 : ∀ w ∈ B, w.before args s = true) : ∀ w ∈ L, w.before args s = true := by
  intro w hw
  by_cases g : goodWord w = true
  · exact h1 w (List.mem_filter.mpr ⟨hw, g⟩)
  · refine h3 w (h2 w (List.mem_filter.mpr ⟨hw, ?_⟩))
    show (!goodWord w) = true
    cases hgw : goodWord w
    · rfl
    · exact absurd hgw g
theorem vx_c {args : Array Value} {s : State} {w : Cond} {B : List Cond} (h : w.before args s = true) (t : ∀ w ∈ B, w.before args s = true) : ∀ w' ∈ w :: B, w'.before args s = true := fun w' h' => (List.mem_cons.mp h').elim (fun e => by rw [e]; exact h) (t w')
theorem vx_n {args : Array Value} {s : State} : ∀ w ∈ ([] : List Cond), w.before args s = true := fun _ h => nomatch h
theorem vx_own {args : Array Value} {s : State} {L : List Cond} (h1 : ∀ w ∈ L.filter vx_no, w.before args s = true)
    (hU : (Cond.isRef (.static Bundle.tN "UNASSIGNED_STACK" Bundle.steD)).before args s = true) (hN : (Cond.isRef (.static Bundle.tN "SUPPRESSED_SENTINEL" Bundle.listD)).before args s = true)
    (lU : (Cond.laysStatic Bundle.tN "UNASSIGNED_STACK" Bundle.steD).before args s = true) (lN : (Cond.laysStatic Bundle.tN "SUPPRESSED_SENTINEL" Bundle.listD).before args s = true) : ∀ w ∈ L, w.before args s = true := by
  intro w hw
  by_cases e1 : w = .isRef (.static Bundle.tN "UNASSIGNED_STACK" Bundle.steD)
  · rw [e1]; exact hU
  · by_cases e2 : w = .isRef (.static Bundle.tN "SUPPRESSED_SENTINEL" Bundle.listD)
    · rw [e2]; exact hN
    · by_cases e3 : w = .laysStatic Bundle.tN "UNASSIGNED_STACK" Bundle.steD
      · rw [e3]; exact lU
      · by_cases e4 : w = .laysStatic Bundle.tN "SUPPRESSED_SENTINEL" Bundle.listD
        · rw [e4]; exact lN
        · exact h1 w (List.mem_filter.mpr ⟨hw, by unfold vx_no; rw [decide_eq_true e1, decide_eq_true e2, decide_eq_true e3, decide_eq_true e4]; rfl⟩)
/-- where a static field lies, its class's statics cell in H -/
def vx_L (C n d : String) (A : Nat → Prop) (U : State) (H : Heap) : Prop := ∃ (c : ClassId) (k : Class) (i : Nat) (f : Field) (a : Nat) (cell : Cell), U.vm.findClass C = some c ∧ U.fieldFound? C n d = some (c, k, i, f) ∧ f.isStatic = true ∧ k.statics = some a ∧ H[a]? = some cell ∧ cell.vm.isStatics = true ∧ cell.cls = c ∧ f.slot < cell.slots.size ∧ k.staticTypes[f.slot]? = some f.type ∧ ¬ A a
theorem vx_L.moved {C n d : String} {A : Nat → Prop} {u U : State} {H : Heap} (hvm : u.vm.Alike U.vm) (h : vx_L C n d A u H) : vx_L C n d A U H := by
  obtain ⟨c, k, i, f, a, cell, h1, h2, h3, h4, h5, h6, h7, h8, h9, h10⟩ := h
  obtain ⟨k', hi', he⟩ := State.fieldFound?_setVm hvm h2
  exact ⟨c, k', i, f, a, cell, by rw [hvm.findClass]; exact h1, hi', h3, by rw [he]; exact h4, h5, h6, h7, h8, by rw [he]; exact h9, h10⟩
theorem vx_L.kept {C n d : String} {A : Nat → Prop} {U : State} {H H1 : Heap} (h : vx_L C n d A U H) (hq : ∀ a : Nat, a < H.size → ¬ A a → H1[a]? = H[a]?) : vx_L C n d A U H1 := by
  obtain ⟨c, k, i, f, a, cell, h1, h2, h3, h4, h5, h6, h7, h8, h9, h10⟩ := h
  exact ⟨c, k, i, f, a, cell, h1, h2, h3, h4, by rw [hq a (Array.getElem?_eq_some_iff.mp h5).1 h10]; exact h5, h6, h7, h8, h9, h10⟩
theorem vx_L.narrow {C n d : String} {A B : Nat → Prop} {U : State} {H : Heap} (h : vx_L C n d A U H) (hAB : ∀ q, B q → A q) : vx_L C n d B U H := by
  obtain ⟨c, k, i, f, a, cell, h1, h2, h3, h4, h5, h6, h7, h8, h9, h10⟩ := h
  exact ⟨c, k, i, f, a, cell, h1, h2, h3, h4, h5, h6, h7, h8, h9, fun z => h10 (hAB _ z)⟩
theorem vx_L.word {C n d : String} {A : Nat → Prop} {s : State} {args : Array Value} (h : vx_L C n d A s s.heap) : (Cond.laysStatic C n d).before args s = true := by
  obtain ⟨c, k, i, f, a, cell, h1, h2, h3, h4, h5, h6, h7, h8, h9, -⟩ := h
  show (Cond.laysStatic C n d).holds args s none s [] = true
  exact Cond.laysStatic_of h1 h2 h3 h4 h5 h6 h7 h8 h9
/-- .. and what it holds: null or some reference -/
def vx_Zq (C n d : String) (A : Nat → Prop) (U : State) (H : Heap) : Prop := va_Zq C n d A U H ∧ vx_L C n d A U H
theorem vx_Zq.moved {C n d : String} {A : Nat → Prop} {u U : State} {H : Heap} (hvm : u.vm.Alike U.vm) (h : vx_Zq C n d A u H) : vx_Zq C n d A U H := ⟨va_Zq.moved hvm h.1, vx_L.moved hvm h.2⟩
theorem vx_Zq.kept {C n d : String} {A : Nat → Prop} {U : State} {H H1 : Heap} (h : vx_Zq C n d A U H) (hq : ∀ a : Nat, a < H.size → ¬ A a → H1[a]? = H[a]?) : vx_Zq C n d A U H1 := ⟨va_Zq.kept h.1 hq, vx_L.kept h.2 hq⟩
theorem vx_Zq.narrow {C n d : String} {A B : Nat → Prop} {U : State} {H : Heap} (h : vx_Zq C n d A U H) (hAB : ∀ q, B q → A q) : vx_Zq C n d B U H := ⟨va_Zq.narrow h.1 hAB, vx_L.narrow h.2 hAB⟩
theorem vx_Zqof {args : Array Value} {s : State} {C n d : String} {A : Nat → Prop} (hl : (Cond.laysStatic C n d).before args s = true) (hini : (Cond.initialized C).before args s = true) (h : (Cond.isRef (.static C n d)).before args s = true) (hA : ∀ a : Nat, a < s.heap.size → ¬ A a) : vx_Zq C n d A s s.heap := by
  refine ⟨va_Zqof hl hini h hA, ?_⟩
  obtain ⟨c, k, i, f, a, cell, h1, h2, h3, h4, h5, h6, h7, h8, h9⟩ := Cond.laysStatic_spec hl
  exact ⟨c, k, i, f, a, cell, h1, h2, h3, h4, h5, h6, h7, h8, h9, hA a (Array.getElem?_eq_some_iff.mp h5).1⟩
theorem vx_isRef {C n d : String} {v : Value} {A : Nat → Prop} {s : State} {args : Array Value} (h : va_Z C n d v A s s.heap) (hv : v.isRef = true) : (Cond.isRef (.static C n d)).before args s = true := by
  obtain ⟨cf, kf, fi, f, a, cell, h1, h2, h3, h4, h5, h6, h7, -⟩ := h
  have he : (Term.static C n d).eval args s none [] s = some v := by
    simp [Term.eval, State.fieldNamed?, h1, h2, h4, h5, h6, h7]
  simp only [Cond.before, Cond.holds, Cond.value, he]
  cases v <;> simp_all [Value.isRef]
theorem vx_isRefq {C n d : String} {A : Nat → Prop} {s : State} {args : Array Value} (h : va_Zq C n d A s s.heap) : (Cond.isRef (.static C n d)).before args s = true := by
  rcases h with h | ⟨t, h⟩
  · exact vx_isRef h rfl
  · exact vx_isRef h rfl
/-- the same frame, seen from here: as if the method were called anew in this heap -/
theorem vx_rebase {T : State} (X : Stand p l e R s m args below meth c T locs cells slots) {R' : Room} (hf : R'.frames ≤ R.frames) (hl : R'.locals ≤ R.locals) (hc : cells + R'.cells ≤ R.cells) (hs : slots + R'.slots ≤ R.slots) :
    Stand p l e R' ((T.setVm s.vm).setFrames (.invoking m args :: below)) m args below meth c T [] 0 0 := by
  have htop : (T.setVm s.vm).topJava?.isSome := X.here.top
  have hF : ((T.setVm s.vm).setFrames (.invoking m args :: below)).frames = .invoking m args :: below := State.frames_setFrames _ (State.cur_lt_of_top htop)
  obtain ⟨g₀, hg0⟩ := Option.isSome_iff_exists.mp htop
  obtain ⟨r, hr⟩ := State.topJava?_eq_some.mp hg0
  have hl9 : e.platform.stackLimits (T.setVm s.vm).me = e.platform.stackLimits s.me := X.limits
  have hb9 : (T.setVm s.vm).me.stackBytes = s.me.stackBytes := X.bytes
  refine ⟨X.admits, X.cas, X.clock, hF, ?_, X.hears, X.method, X.code, X.here, X.tail, X.warmed, ?_, ?_, ?_⟩
  · have h := X.room
    have hU : ((T.setVm s.vm).setFrames (.invoking m args :: below)).localsInUse = s.localsInUse := by
      rw [State.localsInUse_invoking hF (meth := meth) (c := c) X.method X.code, State.localsInUse_invoking X.frames X.method X.code]
    simp only [State.hasRoom, Bool.and_eq_true, decide_eq_true_eq] at h ⊢
    obtain ⟨⟨⟨⟨h1, h2, h3, h4, h5, h6⟩, h7⟩, h8⟩, h9⟩ := h
    rw [X.frames, List.length_cons] at h2 h3
    have q1 := X.heapSize
    have q2 := X.used
    simp only [hF, hU, List.length_cons, State.stackLimits_setFrames, State.stackBytes_setFrames, hl9, hb9]
    refine ⟨⟨⟨⟨by omega, by omega, by omega, by omega, by omega, h6⟩, ?_⟩, ?_⟩, X.book⟩
    · show T.heap.size + R'.cells ≤ e.platform.maxCells
      omega
    · show T.slotsUsed + R'.slots ≤ e.platform.maxSlots
      omega
  · rw [State.stackLimits_setFrames]; rfl
  · rw [State.stackBytes_setFrames]; rfl
  · refine ⟨?_, Nat.le_refl _, Nat.le_refl _, ?_, ?_, fun a c9 h9 => ⟨c9, h9, rfl, rfl, fun _ _ => rfl⟩⟩
    · obtain ⟨t, ht, -⟩ := State.frames_cons hr
      show T.setVm s.vm = { ((T.setVm s.vm).setFrames (.invoking m args :: below)).setFrames (T.setVm s.vm).frames with heap := T.heap, slotsUsed := T.slotsUsed }
      rw [State.setFrames_setFrames, State.setFrames_self ht]
      rfl
    · show T.slotsUsed = T.slotsUsed + ((T.heap.toList.drop T.heap.size).map (·.slots.size)).sum
      rw [List.drop_eq_nil_of_le (Nat.le_of_eq Array.length_toList)]
      rfl
    · show ((T.heap.toList.drop T.heap.size).map (·.slots.size)).sum ≤ 0
      rw [List.drop_eq_nil_of_le (Nat.le_of_eq Array.length_toList)]
      exact Nat.le_refl _
/-- 'throw new E()': new; dup; invokespecial; athrow -/
theorem vx_throw0 {cc : ByteArray} {pc : Nat} (hexec : p.tables.exec = Jvm.exec) (hb : c.code = cc) (hl : l.stackTraces = false) {own cls : String} {names : List String} {ik ic mc ms : Nat} {A : Nat → Prop}
    (hown : s.vm.findClass own = some m.cls) (hcls : Bundle.fit cls = true) (hnames : ∀ n ∈ names, Bundle.fit n = true)
    (hk : (Cond.classLink own ik cls).before args s = true) (hini : (Cond.initialized cls).before args s = true) (hat : ∀ w ∈ vx_at0 own ic cls names, w.before args s = true)
    (hgood : ∀ w ∈ Cond.classLink own ik cls :: Cond.initialized cls :: vx_at0 own ic cls names, vx_ot w = true)
    (hU : vx_Zq Bundle.tN "UNASSIGNED_STACK" Bundle.steD A s s.heap) (hN : vx_Zq Bundle.tN "SUPPRESSED_SENTINEL" Bundle.listD A s s.heap) (hS : va_S A s.heap H locs) (hsize : ls.size = c.maxLocals)
    (d0 : decode cc pc = .ok (.new ik, 3)) (d3 : decode cc (pc + 3) = .ok (.dup, 1)) (d4 : decode cc (pc + 4) = .ok (.invokespecial ic, 3)) (d7 : decode cc (pc + 7) = .ok (.athrow, 1))
    (hout : ∀ x ∈ c.exceptionTable.toList, covers x (pc + 7) = false)
    (hRframes : names.length + 3 < R.frames) (hRlocals : (rest.map fun v => v.category).sum + (13 * (names.length + 1) + 42) ≤ R.locals) (hRcells : cells + 1 ≤ R.cells) (hRslots : slots + 6 ≤ R.slots) (hlocks : meth.locks = false)
    (hx : ∀ t : State, s.vm.Alike t.vm → H.size ≤ t.heap.size → (∀ q : Nat, q < H.size → t.heap[q]? = H[q]?) → XC cls s t)
    (hf : ∀ z ∈ locs, free z.base) (hc : cells + 1 ≤ mc) (hs : slots + 6 ≤ ms) :
    W p l e R s m args below meth c H locs cells slots (vx_MQ below Qc XC args s mc ms free) (F0 m pc ls rest) := by
  intro T hT X
  have htr : e.platform.stackTraces = false := (show e.platform.stackTraces = l.stackTraces by rw [X.admits.platform]).trans hl
  have Y := vx_rebase X (R' := { frames := R.frames, locals := R.locals, cells := 1, slots := 6 }) (Nat.le_refl _) (Nat.le_refl _) hRcells hRslots
  obtain ⟨s', hA⟩ : ∃ z, z = (T.setVm s.vm).setFrames (.invoking m args :: below) := ⟨_, rfl⟩
  rw [← hA] at Y
  have hvm : s'.vm = s.vm := by rw [hA]; rfl
  have hhp : s'.heap = H := by rw [hA]; exact hT
  have hW0 : s.WarmedH s'.vm := by rw [hvm]; exact State.WarmedH.refl s
  have hat' : ∀ w ∈ vx_at0 own ic cls names, w.before args s' = true := fun w hw => vx_ot_at hW0 hvm.symm (hgood w (List.mem_cons_of_mem _ (List.mem_cons_of_mem _ hw))) (hat w hw)
  have hk' : (Cond.classLink own ik cls).before args s' = true := vx_ot_at hW0 hvm.symm (hgood _ List.mem_cons_self) hk
  have hini' : (Cond.initialized cls).before args s' = true := vx_ot_at hW0 hvm.symm (hgood _ (List.mem_cons_of_mem _ List.mem_cons_self)) hini
  have hU' : vx_Zq Bundle.tN "UNASSIGNED_STACK" Bundle.steD A s' s'.heap := by rw [hhp]; exact vx_Zq.moved hW0.alike (hU.kept hS.2.1)
  have hN' : vx_Zq Bundle.tN "SUPPRESSED_SENTINEL" Bundle.listD A s' s'.heap := by rw [hhp]; exact vx_Zq.moved hW0.alike (hN.kept hS.2.1)
  have h : ∀ w ∈ Bundle.ownAtoms0 own ic cls names, w.before args s' = true := vx_own hat' (vx_isRefq hU'.1) (vx_isRefq hN'.1) hU'.2.word hN'.2.word
  have hown' : s'.vm.findClass own = some m.cls := by rw [hvm]; exact hown
  have hins : (Cond.instantiable cls 6).before args s' = true := h _ (by simp [Bundle.ownAtoms0])
  obtain ⟨vm₁, cX, kX, hfX, hkX, -, -, X₁, st1⟩ := Y.newCold hexec (own := own) (C := cls) (index := ik) (n := 6) hown' hk' hins hini'
    (g := F0 m pc ls rest) rfl (by rw [hb]; exact d0) (Nat.le_refl _) (Nat.le_refl _)
  generalize hT1 : (T.setVm vm₁).pushCell { cls := cX, slots := kX.instanceTypes.map defaultValue, vm := .none } = T1 at X₁ st1
  have hcat : (Value.ref T.heap.size).category = 1 := rfl
  have hcellA : T1.heap[T.heap.size]? = some (freshCell cX kX) := by rw [← hT1]; exact State.heap_pushCell_size _ _
  have d3' : decode c.code (pc + 3) = .ok (.dup, 1) := by rw [hb]; exact d3
  obtain ⟨U, hsteps, hrun, hend, hW, hsame, ce, hce, hO⟩ := X₁.ctorThrow0 hexec htr (own := own) (cls := cls) (names := names) (ic := ic) hown' hcls hnames h (fun x hx => nomatch hx) hfX hkX hcellA (by rw [hhp, hT]; exact Nat.le_refl _)
    (g := { method := m, pc := pc + 4, locals := ls, stack := .ref T.heap.size :: .ref T.heap.size :: rest, locked := none }) rfl hsize rfl rfl (rest := rest) rfl
    (by rw [hb]; exact d4) (by rw [hb]; exact d7) hout hRframes (by simp only [List.map_cons, List.sum_cons, hcat]; omega) hlocks
  obtain ⟨f1, f2⟩ := vx_frame hsame
  rw [hhp] at f1 f2
  have hWs : s.WarmedH U.vm := State.WarmedH.trans hW0 hW
  have hcl : s.vm.findClass cls = some ce.cls := by
    have h9 := hO.cls
    rw [hvm] at h9
    exact h9
  have hall : s.sameButNew ({ U with vm := s.vm } : State) locs mc ms := by
    subst hA
    obtain ⟨e1, e2⟩ := hsame
    rw [State.setFrames_setFrames] at e1
    have h2 : (T.setVm s.vm).sameButNew ({ U with vm := s.vm } : State) [] (0 + 1) (0 + 6) := ⟨e1, e2⟩
    have h3 := X.same.trans h2
    rw [List.append_nil] at h3
    exact h3.mono hc hs
  refine ⟨U, ?_, .threw T.heap.size, hrun, hend, Or.inr ⟨T.heap.size, rfl, cls, ce, locs, hx U hWs.alike f1 (fun q hq => f2 q hq (fun z hz => nomatch hz)), hce, hO.vm, hcl, hWs, hall, hf⟩⟩
  refine st1 _ ?_
  show Steps p.tables e below (T1.setTop { method := m, pc := pc + 3, locals := ls, stack := .ref T.heap.size :: rest, locked := none }) _
  jvm_step X₁.here [X₁.here.top, hexec, d3', Value.category]
  exact hsteps
/-- 'throw new E("text")': new; dup; ldc; invokespecial; athrow -/
theorem vx_throwS {cc : ByteArray} {pc : Nat} (hexec : p.tables.exec = Jvm.exec) (hb : c.code = cc) (hl : l.stackTraces = false) {own cls text : String} {names : List String} {ik is ic mc ms sa : Nat} {A : Nat → Prop}
    (hown : s.vm.findClass own = some m.cls) (hcls : Bundle.fit cls = true) (hnames : ∀ n ∈ names, Bundle.fit n = true)
    (hk : (Cond.classLink own ik cls).before args s = true) (hini : (Cond.initialized cls).before args s = true) (hstr : vk_R own is text sa s) (hat : ∀ w ∈ vx_atS own ic cls names, w.before args s = true)
    (hgood : ∀ w ∈ Cond.classLink own ik cls :: Cond.initialized cls :: vx_atS own ic cls names, vx_ot w = true)
    (hU : vx_Zq Bundle.tN "UNASSIGNED_STACK" Bundle.steD A s s.heap) (hN : vx_Zq Bundle.tN "SUPPRESSED_SENTINEL" Bundle.listD A s s.heap) (hS : va_S A s.heap H locs) (hsize : ls.size = c.maxLocals)
    (d0 : decode cc pc = .ok (.new ik, 3)) (d3 : decode cc (pc + 3) = .ok (.dup, 1)) (d4 : decode cc (pc + 4) = .ok (.ldc is, 2)) (d6 : decode cc (pc + 6) = .ok (.invokespecial ic, 3)) (d9 : decode cc (pc + 9) = .ok (.athrow, 1))
    (hout : ∀ x ∈ c.exceptionTable.toList, covers x (pc + 9) = false)
    (hRframes : names.length + 3 < R.frames) (hRlocals : (rest.map fun v => v.category).sum + (13 * (names.length + 1) + 43) ≤ R.locals) (hRcells : cells + 1 ≤ R.cells) (hRslots : slots + 6 ≤ R.slots) (hlocks : meth.locks = false)
    (hx : ∀ t : State, s.vm.Alike t.vm → H.size ≤ t.heap.size → (∀ q : Nat, q < H.size → t.heap[q]? = H[q]?) → XC cls s t)
    (hf : ∀ z ∈ locs, free z.base) (hc : cells + 1 ≤ mc) (hs : slots + 6 ≤ ms) :
    W p l e R s m args below meth c H locs cells slots (vx_MQ below Qc XC args s mc ms free) (F0 m pc ls rest) := by
  intro T hT X
  have htr : e.platform.stackTraces = false := (show e.platform.stackTraces = l.stackTraces by rw [X.admits.platform]).trans hl
  have Y := vx_rebase X (R' := { frames := R.frames, locals := R.locals, cells := 1, slots := 6 }) (Nat.le_refl _) (Nat.le_refl _) hRcells hRslots
  obtain ⟨s', hA⟩ : ∃ z, z = (T.setVm s.vm).setFrames (.invoking m args :: below) := ⟨_, rfl⟩
  rw [← hA] at Y
  have hvm : s'.vm = s.vm := by rw [hA]; rfl
  have hhp : s'.heap = H := by rw [hA]; exact hT
  have hW0 : s.WarmedH s'.vm := by rw [hvm]; exact State.WarmedH.refl s
  have hat' : ∀ w ∈ vx_atS own ic cls names, w.before args s' = true := fun w hw => vx_ot_at hW0 hvm.symm (hgood w (List.mem_cons_of_mem _ (List.mem_cons_of_mem _ hw))) (hat w hw)
  have hk' : (Cond.classLink own ik cls).before args s' = true := vx_ot_at hW0 hvm.symm (hgood _ List.mem_cons_self) hk
  have hini' : (Cond.initialized cls).before args s' = true := vx_ot_at hW0 hvm.symm (hgood _ (List.mem_cons_of_mem _ List.mem_cons_self)) hini
  have hU' : vx_Zq Bundle.tN "UNASSIGNED_STACK" Bundle.steD A s' s'.heap := by rw [hhp]; exact vx_Zq.moved hW0.alike (hU.kept hS.2.1)
  have hN' : vx_Zq Bundle.tN "SUPPRESSED_SENTINEL" Bundle.listD A s' s'.heap := by rw [hhp]; exact vx_Zq.moved hW0.alike (hN.kept hS.2.1)
  have h : ∀ w ∈ Bundle.ownAtoms own ic cls names, w.before args s' = true := vx_own hat' (vx_isRefq hU'.1) (vx_isRefq hN'.1) hU'.2.word hN'.2.word
  have hown' : s'.vm.findClass own = some m.cls := by rw [hvm]; exact hown
  have hins : (Cond.instantiable cls 6).before args s' = true := h _ (by simp [Bundle.ownAtoms])
  obtain ⟨vm₁, cX, kX, hfX, hkX, -, -, X₁, st1⟩ := Y.newCold hexec (own := own) (C := cls) (index := ik) (n := 6) hown' hk' hins hini'
    (g := F0 m pc ls rest) rfl (by rw [hb]; exact d0) (Nat.le_refl _) (Nat.le_refl _)
  generalize hT1 : (T.setVm vm₁).pushCell { cls := cX, slots := kX.instanceTypes.map defaultValue, vm := .none } = T1 at X₁ st1
  have hcat : (Value.ref T.heap.size).category = 1 := rfl
  have hcellA : T1.heap[T.heap.size]? = some (freshCell cX kX) := by rw [← hT1]; exact State.heap_pushCell_size _ _
  have d3' : decode c.code (pc + 3) = .ok (.dup, 1) := by rw [hb]; exact d3
  have d4' : decode c.code (pc + 4) = .ok (.ldc is, 2) := by rw [hb]; exact d4
  have hstr' : vk_R own is text sa s' := vk_R.warm hW0 hstr
  obtain ⟨U, hsteps, hrun, hend, hW, hsame, ce, hce, hO⟩ := X₁.ctorThrowS hexec htr (own := own) (cls := cls) (names := names) (ic := ic) hown' hcls hnames h (fun x hx => nomatch hx) hfX hkX hcellA (by rw [hhp, hT]; exact Nat.le_refl _) (msg := .ref sa) rfl
    (g := { method := m, pc := pc + 6, locals := ls, stack := .ref sa :: .ref T.heap.size :: .ref T.heap.size :: rest, locked := none }) rfl hsize rfl rfl (rest := rest) rfl
    (by rw [hb]; exact d6) (by rw [hb]; exact d9) hout hRframes (by simp only [List.map_cons, List.sum_cons, hcat]; omega) hlocks
  obtain ⟨f1, f2⟩ := vx_frame hsame
  rw [hhp] at f1 f2
  have hWs : s.WarmedH U.vm := State.WarmedH.trans hW0 hW
  have hcl : s.vm.findClass cls = some ce.cls := by
    have h9 := hO.cls
    rw [hvm] at h9
    exact h9
  have hall : s.sameButNew ({ U with vm := s.vm } : State) locs mc ms := by
    subst hA
    obtain ⟨e1, e2⟩ := hsame
    rw [State.setFrames_setFrames] at e1
    have h2 : (T.setVm s.vm).sameButNew ({ U with vm := s.vm } : State) [] (0 + 1) (0 + 6) := ⟨e1, e2⟩
    have h3 := X.same.trans h2
    rw [List.append_nil] at h3
    exact h3.mono hc hs
  refine ⟨U, ?_, .threw T.heap.size, hrun, hend, Or.inr ⟨T.heap.size, rfl, cls, ce, locs, hx U hWs.alike f1 (fun q hq => f2 q hq (fun z hz => nomatch hz)), hce, hO.vm, hcl, hWs, hall, hf⟩⟩
  refine st1 _ ?_
  show Steps p.tables e below (T1.setTop { method := m, pc := pc + 3, locals := ls, stack := .ref T.heap.size :: rest, locked := none }) _
  jvm_step X₁.here [X₁.here.top, hexec, d3', Value.category]
  exact X₁.ldcString hexec (own := own) (text := text) (index := is) (a := sa) hown' hstr'.1 hstr'.2
    (g := { method := m, pc := pc + 4, locals := ls, stack := .ref T.heap.size :: .ref T.heap.size :: rest, locked := none }) rfl d4' _ hsteps
/-- 'throw new E("text")', the text by a wide index -/
theorem vx_throwSW {cc : ByteArray} {pc : Nat} (hexec : p.tables.exec = Jvm.exec) (hb : c.code = cc) (hl : l.stackTraces = false) {own cls text : String} {names : List String} {ik is ic mc ms sa : Nat} {A : Nat → Prop}
    (hown : s.vm.findClass own = some m.cls) (hcls : Bundle.fit cls = true) (hnames : ∀ n ∈ names, Bundle.fit n = true)
    (hk : (Cond.classLink own ik cls).before args s = true) (hini : (Cond.initialized cls).before args s = true) (hstr : vk_R own is text sa s) (hat : ∀ w ∈ vx_atS own ic cls names, w.before args s = true)
    (hgood : ∀ w ∈ Cond.classLink own ik cls :: Cond.initialized cls :: vx_atS own ic cls names, vx_ot w = true)
    (hU : vx_Zq Bundle.tN "UNASSIGNED_STACK" Bundle.steD A s s.heap) (hN : vx_Zq Bundle.tN "SUPPRESSED_SENTINEL" Bundle.listD A s s.heap) (hS : va_S A s.heap H locs) (hsize : ls.size = c.maxLocals)
    (d0 : decode cc pc = .ok (.new ik, 3)) (d3 : decode cc (pc + 3) = .ok (.dup, 1)) (d4 : decode cc (pc + 4) = .ok (.ldc_w is, 3)) (d7 : decode cc (pc + 7) = .ok (.invokespecial ic, 3)) (d10 : decode cc (pc + 10) = .ok (.athrow, 1))
    (hout : ∀ x ∈ c.exceptionTable.toList, covers x (pc + 10) = false)
    (hRframes : names.length + 3 < R.frames) (hRlocals : (rest.map fun v => v.category).sum + (13 * (names.length + 1) + 43) ≤ R.locals) (hRcells : cells + 1 ≤ R.cells) (hRslots : slots + 6 ≤ R.slots) (hlocks : meth.locks = false)
    (hx : ∀ t : State, s.vm.Alike t.vm → H.size ≤ t.heap.size → (∀ q : Nat, q < H.size → t.heap[q]? = H[q]?) → XC cls s t)
    (hf : ∀ z ∈ locs, free z.base) (hc : cells + 1 ≤ mc) (hs : slots + 6 ≤ ms) :
    W p l e R s m args below meth c H locs cells slots (vx_MQ below Qc XC args s mc ms free) (F0 m pc ls rest) := by
  intro T hT X
  have htr : e.platform.stackTraces = false := (show e.platform.stackTraces = l.stackTraces by rw [X.admits.platform]).trans hl
  have Y := vx_rebase X (R' := { frames := R.frames, locals := R.locals, cells := 1, slots := 6 }) (Nat.le_refl _) (Nat.le_refl _) hRcells hRslots
  obtain ⟨s', hA⟩ : ∃ z, z = (T.setVm s.vm).setFrames (.invoking m args :: below) := ⟨_, rfl⟩
  rw [← hA] at Y
  have hvm : s'.vm = s.vm := by rw [hA]; rfl
  have hhp : s'.heap = H := by rw [hA]; exact hT
  have hW0 : s.WarmedH s'.vm := by rw [hvm]; exact State.WarmedH.refl s
  have hat' : ∀ w ∈ vx_atS own ic cls names, w.before args s' = true := fun w hw => vx_ot_at hW0 hvm.symm (hgood w (List.mem_cons_of_mem _ (List.mem_cons_of_mem _ hw))) (hat w hw)
  have hk' : (Cond.classLink own ik cls).before args s' = true := vx_ot_at hW0 hvm.symm (hgood _ List.mem_cons_self) hk
  have hini' : (Cond.initialized cls).before args s' = true := vx_ot_at hW0 hvm.symm (hgood _ (List.mem_cons_of_mem _ List.mem_cons_self)) hini
  have hU' : vx_Zq Bundle.tN "UNASSIGNED_STACK" Bundle.steD A s' s'.heap := by rw [hhp]; exact vx_Zq.moved hW0.alike (hU.kept hS.2.1)
  have hN' : vx_Zq Bundle.tN "SUPPRESSED_SENTINEL" Bundle.listD A s' s'.heap := by rw [hhp]; exact vx_Zq.moved hW0.alike (hN.kept hS.2.1)
  have h : ∀ w ∈ Bundle.ownAtoms own ic cls names, w.before args s' = true := vx_own hat' (vx_isRefq hU'.1) (vx_isRefq hN'.1) hU'.2.word hN'.2.word
  have hown' : s'.vm.findClass own = some m.cls := by rw [hvm]; exact hown
  have hins : (Cond.instantiable cls 6).before args s' = true := h _ (by simp [Bundle.ownAtoms])
  obtain ⟨vm₁, cX, kX, hfX, hkX, -, -, X₁, st1⟩ := Y.newCold hexec (own := own) (C := cls) (index := ik) (n := 6) hown' hk' hins hini'
    (g := F0 m pc ls rest) rfl (by rw [hb]; exact d0) (Nat.le_refl _) (Nat.le_refl _)
  generalize hT1 : (T.setVm vm₁).pushCell { cls := cX, slots := kX.instanceTypes.map defaultValue, vm := .none } = T1 at X₁ st1
  have hcat : (Value.ref T.heap.size).category = 1 := rfl
  have hcellA : T1.heap[T.heap.size]? = some (freshCell cX kX) := by rw [← hT1]; exact State.heap_pushCell_size _ _
  have d3' : decode c.code (pc + 3) = .ok (.dup, 1) := by rw [hb]; exact d3
  have d4' : decode c.code (pc + 4) = .ok (.ldc_w is, 3) := by rw [hb]; exact d4
  have hstr' : vk_R own is text sa s' := vk_R.warm hW0 hstr
  obtain ⟨U, hsteps, hrun, hend, hW, hsame, ce, hce, hO⟩ := X₁.ctorThrowS hexec htr (own := own) (cls := cls) (names := names) (ic := ic) hown' hcls hnames h (fun x hx => nomatch hx) hfX hkX hcellA (by rw [hhp, hT]; exact Nat.le_refl _) (msg := .ref sa) rfl
    (g := { method := m, pc := pc + 7, locals := ls, stack := .ref sa :: .ref T.heap.size :: .ref T.heap.size :: rest, locked := none }) rfl hsize rfl rfl (rest := rest) rfl
    (by rw [hb]; exact d7) (by rw [hb]; exact d10) hout hRframes (by simp only [List.map_cons, List.sum_cons, hcat]; omega) hlocks
  obtain ⟨f1, f2⟩ := vx_frame hsame
  rw [hhp] at f1 f2
  have hWs : s.WarmedH U.vm := State.WarmedH.trans hW0 hW
  have hcl : s.vm.findClass cls = some ce.cls := by
    have h9 := hO.cls
    rw [hvm] at h9
    exact h9
  have hall : s.sameButNew ({ U with vm := s.vm } : State) locs mc ms := by
    subst hA
    obtain ⟨e1, e2⟩ := hsame
    rw [State.setFrames_setFrames] at e1
    have h2 : (T.setVm s.vm).sameButNew ({ U with vm := s.vm } : State) [] (0 + 1) (0 + 6) := ⟨e1, e2⟩
    have h3 := X.same.trans h2
    rw [List.append_nil] at h3
    exact h3.mono hc hs
  refine ⟨U, ?_, .threw T.heap.size, hrun, hend, Or.inr ⟨T.heap.size, rfl, cls, ce, locs, hx U hWs.alike f1 (fun q hq => f2 q hq (fun z hz => nomatch hz)), hce, hO.vm, hcl, hWs, hall, hf⟩⟩
  refine st1 _ ?_
  show Steps p.tables e below (T1.setTop { method := m, pc := pc + 3, locals := ls, stack := .ref T.heap.size :: rest, locked := none }) _
  jvm_step X₁.here [X₁.here.top, hexec, d3', Value.category]
  exact X₁.ldcStringW hexec (own := own) (text := text) (index := is) (a := sa) hown' hstr'.1 hstr'.2
    (g := { method := m, pc := pc + 4, locals := ls, stack := .ref T.heap.size :: .ref T.heap.size :: rest, locked := none }) rfl d4' _ hsteps
end Ends
section Bodies
variable {l : Launch}
theorem vx_ofW {y : MethodName} {ws ws' : List Cond} {rm : Room} {Pc : Array Value → State → Prop} {Qc : Array Value → State → Outcome → State → Prop} {XC : String → State → State → Prop} {mc ms : Nat} {free : Addr → Prop} {cc : ByteArray} {maxL : Nat} {ret : Option FieldType}
    (hy : plainName y.cls = true) (hw : ws = Cond.code y cc maxL ret :: ws')
    (body : ∀ p e s m args below meth c s₁, BodyLoose p l y (headSpec ws rm) cc maxL ret e s m args below meth c s₁ → c.maxLocals = maxL → (∀ x ∈ c.exceptionTable.toList, False) → Pc args s →
      W p l e (headSpec ws rm).room s m args below meth c s.heap [] 0 0 (vx_MQ below Qc XC args s mc ms free) (entryFrame m args maxL)) : vx_Met l y ws rm Pc Qc XC mc ms free := by
  refine MetFree.of_bodyS (code := cc) (maxLocals := maxL) (ret := ret) hy ?_ ?_
  · intro args s m h hn
    obtain ⟨meth, c, h1, h2, h3, h4, h5, h6, -, -⟩ := Cond.code_spec hn (atoms_spec (ws := ws) h _ (by rw [hw]; exact List.mem_cons_self))
    exact ⟨meth, c, h1, h2, h3, h4, h5, h6⟩
  · intro p e s m args below meth c s₁ B hml hP _
    have hh0 : s₁.heap = s.heap := by rw [B.state]; rfl
    have ht : ∀ x ∈ c.exceptionTable.toList, False := by
      obtain ⟨meth9, c9, h1, h2, -, -, -, -, h7, -⟩ := Cond.code_spec B.named (atoms_spec (ws := ws) B.pre _ (by rw [hw]; exact List.mem_cons_self))
      cases Option.some.inj (h1.symm.trans B.method)
      cases Option.some.inj (h2.symm.trans (Stand.of_body B).code)
      intro x hx
      rw [Array.isEmpty_iff.mp h7] at hx
      cases hx
    obtain ⟨t, a1, o, b1, b2, b3⟩ := body p e s m args below meth c s₁ B hml ht hP s₁ hh0 (Stand.of_body B)
    exact ⟨t, o, a1, b1, b2, b3⟩
/-- the table of a body with handlers -/
theorem vx_table {p : Program} {x y : MethodName} {S : Spec} {cc bytes : ByteArray} {maxL maxL' : Nat} {ret ret' : Option FieldType} {e : Env} {s s₁ : State} {m : MethodId} {args : Array Value} {below : List Frame} {meth : Method} {c : Code} {hh : List (Nat × Nat × Nat × Nat)}
    (B : BodyLoose p l y S cc maxL ret e s m args below meth c s₁) (h : (Cond.codeWith y bytes maxL' ret' hh).before args s = true) : c.exceptionTable.toList = tableOf hh := by
  obtain ⟨m9, meth9, c9, hn9, h1, h2, -, -, h6, -⟩ := Cond.codeWith_spec h
  cases Option.some.inj (hn9.symm.trans B.named)
  cases Option.some.inj (h1.symm.trans B.method)
  cases Option.some.inj (h2.symm.trans (Stand.of_body B).code)
  rw [← h6, table_eq]
end Bodies
end VXA
/-! ===== END ===== -/
/-! ===== BEGIN a static call of a method with an exception table ===== -/
section VXS
variable {p : Program} {l : Launch} {e : Env} {R : Room} {s : State} {m : MethodId} {args : Array Value} {below : List Frame} {meth : Method} {c : Code} {T : State} {H : Heap} {locs : List Loc} {cells slots : Nat}
abbrev vx_CSW (R : Room) (s : State) (args : Array Value) (own : String) (index : Nat) (y : MethodName) (bytes : ByteArray) (maxL : Nat) (ret : Option FieldType) (hh : List (Nat × Nat × Nat × Nat)) (ws : List Cond) (rm : Room) (mc ms n : Nat) : Prop :=
  (rm.cells = mc ∧ rm.slots = ms ∧ rm.frames + 1 ≤ R.frames ∧ 8 + (maxL + 11) + rm.locals ≤ R.locals ∧ (∀ w ∈ ws, ∀ (a' : Array Value) (U : State), s.WarmedH U.vm → w.before a' U = true) ∧ Cond.codeWith y bytes maxL ret hh ∈ ws) ∧
  (Cond.codeWith y bytes maxL ret hh).before args s = true ∧ (Cond.initialized y.cls).before args s = true ∧ (y.cls ≠ "java/lang/invoke/MethodHandle" ∧ y.cls ≠ "java/lang/invoke/VarHandle") ∧
  (∀ sig, parseMethodDescriptor y.desc = some sig → n = sig.parameters.length) ∧ (Cond.methodLink own index y).before args s = true ∧ (Cond.static y).before args s = true
theorem vx_cwSW {own : String} {index maxL mc ms : Nat} {y : MethodName} {bytes : ByteArray} {ret : Option FieldType} {hh : List (Nat × Nat × Nat × Nat)} {Ts ws ws' : List Cond} {rm : Room} (n : Nat) (ht : ∀ w ∈ Ts, w.before args s = true) (hT : GoodIn Ts (va_wsS own index y ws)) (hw : ws = Cond.codeWith y bytes maxL ret hh :: ws') (hrc : rm.cells = mc) (hrs : rm.slots = ms)
    (hd : y.cls ≠ "java/lang/invoke/MethodHandle" ∧ y.cls ≠ "java/lang/invoke/VarHandle" ∧ (parseMethodDescriptor y.desc).map (fun d => d.parameters.length) = some n) (hR : rm.frames + 1 ≤ R.frames ∧ 8 + (maxL + 11) + rm.locals ≤ R.locals) :
    vx_CSW R s args own index y bytes maxL ret hh ws rm mc ms n := by
  have ok : ∀ w ∈ va_wsS own index y ws, w.before args s = true := fun w h => ht w (hT w h).1
  have hG : GoodIn Ts ws := fun w h => hT w (by unfold va_wsS; exact List.mem_append_right _ h)
  have hc : Cond.codeWith y bytes maxL ret hh ∈ ws := by rw [hw]; exact List.mem_cons_self
  refine ⟨⟨hrc, hrs, hR.1, hR.2, pay_in ht hG, hc⟩, ht _ (hG _ hc).1, ok _ (by simp [va_wsS]), ⟨hd.1, hd.2.1⟩, fun sig h => ?_, ok _ (by simp [va_wsS]), ok _ (by simp [va_wsS])⟩
  have h2 := hd.2.2
  rw [h] at h2
  exact (Option.some.inj h2).symm
theorem vx_callSW (X : Stand p l e R s m args below meth c T locs cells slots) (hexec : p.tables.exec = Jvm.exec) {own : String} {index : Nat} {y : MethodName} {bytes : ByteArray} {maxL : Nat} {ret : Option FieldType} {hh : List (Nat × Nat × Nat × Nat)}
    (hown : s.vm.findClass own = some m.cls) (hlink : (Cond.methodLink own index y).before args s = true) (hstat : (Cond.static y).before args s = true) (hinit : (Cond.initialized y.cls).before args s = true)
    (hcode : (Cond.codeWith y bytes maxL ret hh).before args s = true) (hy : y.cls ≠ "java/lang/invoke/MethodHandle" ∧ y.cls ≠ "java/lang/invoke/VarHandle")
    {W9 : Nat} {Pre : Pt → Array Value → Prop} {Post : Pt → Array Value → Option Value → Pt → Prop} (hK : Back l R p e below s args y 3 W9 Pre Post)
    {g : JFrame} (hg : g.method = m) (hsize : g.locals.size = c.maxLocals) {argsL rest : List Value} (hlen : ∀ sig, parseMethodDescriptor y.desc = some sig → argsL.length = sig.parameters.length)
    (hstack : g.stack = argsL.reverse ++ rest) (hW : 2 * g.monitorRoom + (rest.map fun v => v.category).sum ≤ W9) (hdg : decode c.code g.pc = .ok (.invokestatic index, 3))
    (hpre : ∀ vm₁, s.WarmedH vm₁ → Pre ⟨T.setVm vm₁, locs, cells, slots⟩ argsL.toArray) :
    ∃ (v : Option Value) (vm₁ : Vm) (B : Pt), s.WarmedH vm₁ ∧ Stand p l e R s m args below meth c B.U B.locs B.cells B.slots ∧ Post ⟨T.setVm vm₁, locs, cells, slots⟩ argsL.toArray v B ∧
      ∀ target, Steps p.tables e below (B.U.setTop { g with pc := g.pc + 3, stack := v.toList ++ rest }) target → Steps p.tables e below (T.setTop g) target := by
  obtain ⟨mk, methM, cM, hnamed, hmethM, -, -, -, -, -, -, hsigM⟩ := Cond.codeWith_spec hcode
  have hstatic : methM.isStatic = true := Cond.static_spec hnamed hmethM hstat
  obtain ⟨kP, hkP, -⟩ := className_of_methodNamed hnamed
  have hinitP : kP.init = .initialized := Cond.initialized_spec (findClass_of_methodNamed hnamed) hkP hinit
  obtain ⟨vm₁, X₁, hstep₁⟩ := X.invokestatic hexec hown hlink hnamed hmethM hstatic hkP hinitP hy (g := g) hg (argsL := argsL) (rest := rest) (hlen _ hsigM) hstack hdg
  obtain ⟨v, B, X', hpost, hsteps⟩ := hK m meth c ⟨T.setVm vm₁, locs, cells, slots⟩ { g with stack := rest } (.invokestatic index) mk argsL.toArray X₁ hg hsize hdg hW (X₁.named hnamed) (hpre vm₁ X₁.warmed)
  exact ⟨v, vm₁, B, X₁.warmed, X', hpost, fun target h => hstep₁ _ fun acts => by rw [doInvoke_state]; exact hsteps.trans h⟩
theorem vx_runSW {y : MethodName} {bytes cc : ByteArray} {maxL nL mc ms n index : Nat} {ret : Option FieldType} {hh : List (Nat × Nat × Nat × Nat)} {ws : List Cond} {rm : Room} {Pc : Array Value → State → Prop} {Qc : Array Value → State → Outcome → State → Prop} {free : Addr → Prop} {Ts : List Cond} {own : String} {As rest : List Value} {g : JFrame}
    (S : CallFix p m c cc nL s args Ts own) (hM : Met l y ws rm Pc Qc mc ms free) (cw : vx_CSW R s args own index y bytes maxL ret hh ws rm mc ms n) (hp : PreS s H Pc As)
    (hg : g.method = m) (hn : As.length = n) (hsize : g.locals.size = nL) (hstack : g.stack = As.reverse ++ rest) (hW : 2 * g.monitorRoom + (rest.map fun v => v.category).sum ≤ 8) (hdg : decode cc g.pc = .ok (.invokestatic index, 3)) (hf : cells + mc ≤ R.cells ∧ slots + ms ≤ R.slots) :
    va_Run p l e R s m args below meth c H locs cells slots mc ms g rest (Qc As.toArray) (free) := by
  obtain ⟨⟨hrc, hrs, hfr, hlo, hws, hcw⟩, hcode, hini, hy, hlen, hl, hstt⟩ := cw
  have hK : Back l R p e below s args y 3 8 (PreOf R mc ms Pc) (PostOf Qc mc ms free) := va_backW (hh := hh) (bytes := bytes) (maxL := maxL) (ret := ret) hM hp.1 hrc hrs hfr hlo hws hcw (fun a' U hW => word_at hW (Or.inl (by first | rfl | simp [Cond.onTables, Cond.keeps, Cond.steady])) hini)
  obtain ⟨hx, hb, hml, ho, -⟩ := S
  intro T hT X
  obtain ⟨v, vm₁, ⟨U', l2, c2, s2⟩, hW₁, X', ⟨g', mk, t, L, e1, e2, hq, h1, hL, h2, h3⟩, st⟩ := vx_callSW X hx (hh := hh) (bytes := bytes) (maxL := maxL) (ret := ret) ho hl hstt hini hcode hy hK hg (hsize.trans hml.symm) (argsL := As) (rest := rest) (fun sig h => hn.trans (hlen sig h)) hstack hW (by rw [hb]; exact hdg)
    (fun vm₁ hW₁ => ⟨hf.1, hf.2, hp.2 (T.setVm vm₁) hT hW₁⟩)
  dsimp only [Pt.U, Pt.locs, Pt.cells, Pt.slots] at X' e1 e2 h1 h2 h3 st
  subst h1; subst h2; subst h3
  exact ⟨v, (T.setVm vm₁).calling g' mk As.toArray, t, U', L, hT, X', hL, e1, e2, hq, st⟩
/-- not caught here, past rows that name other classes: it goes on to the caller -/
theorem vx_outP {p : Program} {l : Launch} {e : Env} {R : Room} {s : State} {m : MethodId} {args : Array Value} {below : List Frame} {meth : Method} {c : Code} {H : Heap} {locs : List Loc} {cells slots : Nat} {free : Addr → Prop} {ls : Array Slot} {rest : List Value} {Qc : Array Value → State → Outcome → State → Prop} {XC : String → State → State → Prop}
    {pc : Nat} {own E : String} {ce : Cell} {q : Addr} {mc ms : Nat} (hown : s.vm.findClass own = some m.cls) (hlocks : meth.locks = false)
    (hpass : ∀ z ∈ c.exceptionTable.toList, covers z pc = false ∨ (z.catchType ≠ 0 ∧ ∃ nm : String, (Cond.classLink own z.catchType nm).before args s = true ∧ va_Nc E nm s)) (hcell : H[q]? = some ce) (hv : ce.vm = .none) (hcl : s.vm.findClass E = some ce.cls)
    (hx : ∀ t : State, t.heap = H → s.vm.Alike t.vm → XC E s t) (hf : ∀ z ∈ locs, free z.base) (hc : cells ≤ mc) (hs : slots ≤ ms) :
    vx_W p l e R s m args below meth c H locs cells slots (vx_MQ below Qc XC args s mc ms free) (F0 m pc ls rest) q := by
  intro T hT X
  have hpl : e.platform.magicAccessors = ({} : Platform).magicAccessors := by rw [X.admits.platform]
  obtain ⟨vm', hW', X', st⟩ := X.outThrough hlocks q (g := F0 m pc ls rest) rfl rfl rfl (cell := ce) (by rw [hT]; exact hcell) (by rw [hv]; rfl)
    (by obtain ⟨k9, h9, -⟩ := Vm.findClass_spec hcl; exact ⟨k9, h9⟩) (fun z hz => by
      rcases hpass z hz with h | ⟨hz0, nm, hl1, hn1⟩
      · exact Or.inl h
      · obtain ⟨c6, hc6, hcl6⟩ := Cond.classLink_spec hown hl1 e.platform hpl
        obtain ⟨a8, b8, h1, h2, h3⟩ := hn1
        cases Option.some.inj (h1.symm.trans hcl)
        cases Option.some.inj (h2.symm.trans hc6)
        exact Or.inr ⟨hz0, _, hcl6, h3⟩)
  obtain ⟨g₀, hfr⟩ := X'.frames_eq
  have hcell9 : ((T.setVm vm').setFrames (.throwing q :: below)).heap[q]? = some ce := by
    show T.heap[q]? = some ce
    rw [hT]; exact hcell
  have hend : Ended ((T.setVm vm').setFrames (.throwing q :: below)) below (.threw q) := State.frames_setFrames _ (State.cur_lt_of_frames hfr)
  refine ⟨(T.setVm vm').setFrames (.throwing q :: below), ?_, .threw q, X'.here.running, hend, Or.inr ⟨q, rfl, E, ce, locs, hx _ hT (X'.ends _).1.alike, hcell9, hv, hcl, (X'.ends _).1, (X'.ends _).2.mono hc hs, hf⟩⟩
  rw [X.pushThrowing_eq]
  exact st
/-- a thing of a world lies in the heap -/
theorem vx_lt {D : va_G} {cl : List vw_C} {ws : va_W} {H1 : Heap} (h : va_P D cl ws H1) {k : Nat} {q : Nat × va_E} (hk : ws[k]? = some q) : q.1 < H1.size := (h k q hk).lt
end VXS
/-! ===== END ===== -/
/-! ===== BEGIN methods with a table of their own: called by a name, returning or throwing ===== -/
section VXH
/-! vx_backW, vx_callVX, vx_callSX, vx_callVW, vx_runVW, vx_runVX, vx_runSX, vx_ofWH follow the same proofs as their sisters above (Free/Laws.lean, Shelf42/LK1.lean); vx_outP calls Shelf42/NT130.lean (outThrough). -/
section
variable {l : Launch} {R : Room} {p : Program} {e : Env} {below : List Frame} {s : State} {sargs : Array Value} {y : MethodName} {len W9 : Nat}
theorem vx_backW {ws : List Cond} {rm : Room} {Pc : Array Value → State → Prop} {Qc : Array Value → State → Outcome → State → Prop} {XC : String → State → State → Prop} {mc ms : Nat} {free : Addr → Prop} {bytes : ByteArray} {maxL : Nat} {ret : Option FieldType} {hh : List (Nat × Nat × Nat × Nat)}
    (hM : vx_Met l y ws rm Pc Qc XC mc ms free) (hblind : FrameBlind Pc) (hrc : rm.cells = mc) (hrs : rm.slots = ms)
    (hframes : rm.frames + 1 ≤ R.frames) (hlocals : W9 + (maxL + 11) + rm.locals ≤ R.locals)
    (hws : ∀ w ∈ ws, ∀ a' U, s.WarmedH U.vm → w.before a' U = true) (hcode : Cond.codeWith y bytes maxL ret hh ∈ ws) (hinit : ∀ a' U, s.WarmedH U.vm → (Cond.initialized y.cls).before a' U = true) :
    vx_Back l R p e below s sargs y len W9 (PreOf R mc ms Pc) (PostOf Qc mc ms free) (vx_Post XC mc ms free) := by
  intro m meth c A g ig mk a X hg hsize hdg hW hn hp
  have h1 : (headSpec ws rm).pre.before a A.U = true := atoms_intro fun w hw => hws w hw _ _ X.warmed
  have h2 : (Cond.codeWith y bytes maxL ret hh).before a A.U = true := hws _ hcode _ _ X.warmed
  have h3 : (Cond.initialized y.cls).before a A.U = true := hinit _ _ X.warmed
  have h4 : A.cells + (headSpec ws rm).room.cells ≤ R.cells := by rw [show (headSpec ws rm).room.cells = mc from hrc]; exact hp.1
  have h5 : A.slots + (headSpec ws rm).room.slots ≤ R.slots := by rw [show (headSpec ws rm).room.slots = ms from hrs]; exact hp.2.1
  have hPc : Pc a (A.U.calling g mk a) := hblind _ _ _ _ hp.2.2
  obtain ⟨U, Ls, c0, s0⟩ := A
  dsimp only [Pt.U, Pt.locs, Pt.cells, Pt.slots] at h1 h2 h3 h4 h5 X hn hPc ⊢
  obtain ⟨m9, methY, cY, hn9, hmY, hcY, -, hlY, -⟩ := Cond.codeWith_spec h2
  cases Option.some.inj (hn9.symm.trans hn)
  obtain ⟨kY, hkY, -⟩ := className_of_methodNamed hn
  have hinitY : kY.init = .initialized := Cond.initialized_spec (findClass_of_methodNamed hn) hkY h3
  have h : At U g.method c below := by rw [hg]; exact X.here
  have hlocals9 : W9 + (maxL + 11) + (headSpec ws rm).room.locals ≤ R.locals := hlocals
  have happ : (headSpec ws rm).appliesLoose y e.platform (U.calling g mk a) = true :=
    Spec.appliesLoose_calling (g := g) h hdg hn hkY hinitY
      (X.room_calling (g := g) (R' := (headSpec ws rm).room) hsize hmY hcY hframes (by rw [hlY]; omega) h4 h5) h1
  obtain ⟨mid, hmid⟩ := h.above
  have hfr : (U.setTop g).frames = (.java g :: mid) ++ below := by rw [State.frames_setTop' g h.top, hmid]; rfl
  obtain ⟨o, s₂, hsteps, -, hend, hq⟩ := Steps.callFree hM p X.admits X.cas X.clock (acts := []) hfr happ hPc trivial
  have hq' : vx_Q Qc XC mc ms free a (U.calling g mk a) o s₂ := hq
  rw [State.frames_setTop' g h.top] at hend
  obtain ⟨g₀, hg0⟩ := Option.isSome_iff_exists.mp h.top
  obtain ⟨r, hr⟩ := State.topJava?_eq_some.mp hg0
  have hr' : (({ U with heap := s₂.heap, slotsUsed := s₂.slotsUsed } : State).setVm s₂.vm).frames = .java g₀ :: r := hr
  rcases hq' with ⟨hqc, L, hfe, hL⟩ | ⟨q, rfl, E, ce, L, hx, hce, hcv, hcl, hW₂, hsm, hL⟩
  · obtain ⟨⟨v, rfl⟩, hW₂, e2, q2, q3, q4, q5, q6⟩ := id hfe
    have e3 : s₂ = ({ (U.calling g mk a).setFrames s₂.frames with heap := s₂.heap, slotsUsed := s₂.slotsUsed } : State).setVm s₂.vm := by
      have : s₂ = ({ s₂ with vm := (U.calling g mk a).vm } : State).setVm s₂.vm := rfl
      rw [e2] at this
      exact this
    obtain ⟨c₂, i₂, len₂, hc₂, hd₂, hf₂⟩ := hend
    have hW' : U.WarmedH s₂.vm := hW₂
    have hcc : c₂ = c := by
      have h1 : s₂.code? g.method = U.code? g.method := by
        rw [State.code?_eq, State.code?_eq, hW'.alike.method?]
      exact Option.some.inj (hc₂.symm.trans (h1.trans h.code))
    subst hcc
    have hlen : len₂ = len := by rw [hdg] at hd₂; cases hd₂; rfl
    subst hlen
    have hs₂ : s₂ = (({ U with heap := s₂.heap, slotsUsed := s₂.slotsUsed } : State).setVm s₂.vm).setTop { g with pc := g.pc + len₂, stack := v.toList ++ g.stack } := by
      refine e3.trans ?_
      rw [hf₂, State.calling_eq h.top, State.setFrames_setFrames, State.setTop_of_frames _ hr', hr]
      rfl
    have hsame : U.sameButNew ({ U with heap := s₂.heap, slotsUsed := s₂.slotsUsed } : State) L mc ms := by
      refine ⟨?_, q2, q3, q4, q5, q6⟩
      obtain ⟨t, ht, -⟩ := State.frames_cons hr
      show ({ U with heap := s₂.heap, slotsUsed := s₂.slotsUsed } : State) = { U.setFrames U.frames with heap := s₂.heap, slotsUsed := s₂.slotsUsed }
      rw [State.setFrames_self ht]
    subst hg
    refine Or.inl ⟨v, ⟨(({ U with heap := s₂.heap, slotsUsed := s₂.slotsUsed } : State).setVm s₂.vm), Ls ++ L, c0 + mc, s0 + ms⟩,
      ⟨X.admits, X.cas, X.clock, X.frames, X.room, X.hears, X.method, X.code, (X.here.setHeapUsed s₂.heap s₂.slotsUsed).setVm hW'.alike, X.tail, State.WarmedH.trans X.warmed hW', X.limits, X.bytes, X.same.trans (hsame.setVm s.vm)⟩,
      ⟨g, mk, s₂, L, rfl, rfl, hqc, rfl, hL, rfl, rfl⟩, ?_⟩
    show Steps p.tables e below _ ((({ U with heap := s₂.heap, slotsUsed := s₂.slotsUsed } : State).setVm s₂.vm).setTop { g with pc := g.pc + len₂, stack := v.toList ++ g.stack })
    rw [← hs₂]
    exact hsteps
  · obtain ⟨e2, q2, q3, q4, q5, q6⟩ := id hsm
    have e3 : s₂ = ({ (U.calling g mk a).setFrames s₂.frames with heap := s₂.heap, slotsUsed := s₂.slotsUsed } : State).setVm s₂.vm := by
      have : s₂ = ({ s₂ with vm := (U.calling g mk a).vm } : State).setVm s₂.vm := rfl
      rw [e2] at this
      exact this
    have hf₂ : s₂.frames = .throwing q :: .java g :: U.frames.tail := hend
    have hW' : U.WarmedH s₂.vm := hW₂
    have hs₂ : s₂ = ((({ U with heap := s₂.heap, slotsUsed := s₂.slotsUsed } : State).setVm s₂.vm).setTop g).pushFrame (.throwing q) := by
      refine e3.trans ?_
      rw [hf₂, State.calling_eq h.top, State.setFrames_setFrames, State.pushFrame, State.frames_setTop _ hr', State.setTop_of_frames _ hr', State.setFrames_setFrames, hr]
      rfl
    have hsame : U.sameButNew ({ U with heap := s₂.heap, slotsUsed := s₂.slotsUsed } : State) L mc ms := by
      refine ⟨?_, q2, q3, q4, q5, q6⟩
      obtain ⟨t, ht, -⟩ := State.frames_cons hr
      show ({ U with heap := s₂.heap, slotsUsed := s₂.slotsUsed } : State) = { U.setFrames U.frames with heap := s₂.heap, slotsUsed := s₂.slotsUsed }
      rw [State.setFrames_self ht]
    subst hg
    refine Or.inr ⟨q, ⟨(({ U with heap := s₂.heap, slotsUsed := s₂.slotsUsed } : State).setVm s₂.vm), Ls ++ L, c0 + mc, s0 + ms⟩,
      ⟨X.admits, X.cas, X.clock, X.frames, X.room, X.hears, X.method, X.code, (X.here.setHeapUsed s₂.heap s₂.slotsUsed).setVm hW'.alike, X.tail, State.WarmedH.trans X.warmed hW', X.limits, X.bytes, X.same.trans (hsame.setVm s.vm)⟩,
      ⟨g, mk, s₂, L, E, ce, rfl, rfl, hx, hce, hcv, hcl, rfl, hL, rfl, rfl⟩, ?_⟩
    show Steps p.tables e below _ (((({ U with heap := s₂.heap, slotsUsed := s₂.slotsUsed } : State).setVm s₂.vm).setTop g).pushFrame (.throwing q))
    rw [← hs₂]
    exact hsteps
end
variable {p : Program} {l : Launch} {e : Env} {R : Room} {s : State} {m : MethodId} {args : Array Value} {below : List Frame} {meth : Method} {c : Code} {T : State} {H : Heap} {locs : List Loc} {cells slots : Nat}
theorem vx_callVX (X : Stand p l e R s m args below meth c T locs cells slots) (hexec : p.tables.exec = Jvm.exec) {own C : String} {index : Nat} {y : MethodName} {bytes : ByteArray} {maxL : Nat} {ret : Option FieldType} {hh : List (Nat × Nat × Nat × Nat)}
    (hown : s.vm.findClass own = some m.cls) (hlink : (Cond.methodLink own index y).before args s = true) (hinst : (Cond.instanceMethod y).before args s = true) (hsel : (Cond.selects C y y).before args s = true)
    (hcode : (Cond.codeWith y bytes maxL ret hh).before args s = true) (hy : y.cls ≠ "java/lang/invoke/MethodHandle" ∧ y.cls ≠ "java/lang/invoke/VarHandle")
    {W9 : Nat} {Pre : Pt → Array Value → Prop} {Post : Pt → Array Value → Option Value → Pt → Prop} {PostX : Pt → Array Value → Addr → Pt → Prop} (hK : vx_Back l R p e below s args y 3 W9 Pre Post PostX)
    {b : Addr} {cellB : Cell} (hcell : T.heap[b]? = some cellB) (hobj : cellB.vm.isStatics = false) (hcls : s.vm.findClass C = some cellB.cls)
    {g : JFrame} (hg : g.method = m) (hsize : g.locals.size = c.maxLocals) {argsL rest : List Value} (hlen : ∀ sig, parseMethodDescriptor y.desc = some sig → argsL.length = sig.parameters.length)
    (hstack : g.stack = argsL.reverse ++ .ref b :: rest) (hW : 2 * g.monitorRoom + (rest.map fun v => v.category).sum ≤ W9) (hdg : decode c.code g.pc = .ok (.invokevirtual index, 3))
    (hpre : ∀ vm₁, s.WarmedH vm₁ → Pre ⟨T.setVm vm₁, locs, cells, slots⟩ (Value.ref b :: argsL).toArray) :
    (∃ (v : Option Value) (vm₁ : Vm) (B : Pt), s.WarmedH vm₁ ∧ Stand p l e R s m args below meth c B.U B.locs B.cells B.slots ∧ Post ⟨T.setVm vm₁, locs, cells, slots⟩ (Value.ref b :: argsL).toArray v B ∧
      ∀ target, Steps p.tables e below (B.U.setTop { g with pc := g.pc + 3, stack := v.toList ++ rest }) target → Steps p.tables e below (T.setTop g) target) ∨
    (∃ (q : Addr) (vm₁ : Vm) (B : Pt), s.WarmedH vm₁ ∧ Stand p l e R s m args below meth c B.U B.locs B.cells B.slots ∧ PostX ⟨T.setVm vm₁, locs, cells, slots⟩ (Value.ref b :: argsL).toArray q B ∧
      Steps p.tables e below (T.setTop g) ((B.U.setTop { g with stack := rest }).pushFrame (.throwing q))) := by
  obtain ⟨mk, methM, hnamed, hmethM, hstM, habM⟩ := Cond.instanceMethod_spec hinst
  obtain ⟨m8, methM', cM, hn8, hmethM', -, -, -, -, -, -, hsigM⟩ := Cond.codeWith_spec hcode
  cases Option.some.inj (hn8.symm.trans hnamed)
  cases hmethM.symm.trans hmethM'
  obtain ⟨c2, r2, m2, q1, q2, q3, q4, kP, hkP, hkPi⟩ := Cond.selects_spec hsel
  cases hcls.symm.trans q1
  cases (State.methodFound?_of_named hnamed hy).symm.trans q2
  cases hnamed.symm.trans q3
  have hselP : selectMethod e.platform s.vm cellB.cls mk = .method mk := by rw [Launch.admits_selectMethod X.admits]; exact q4
  obtain ⟨vm₁, X₁, hstep₁⟩ := X.invokevirtual hexec hown hlink hnamed hmethM hstM hkP hkPi hy (a := b) (cell := cellB) hcell
    (fun z h => by rw [h] at hobj; cases hobj) hselP hmethM habM hkP hkPi (g := g) hg (argsL := argsL) (rest := rest) (hlen _ hsigM) hstack hdg
  rcases hK m meth c ⟨T.setVm vm₁, locs, cells, slots⟩ { g with stack := rest } (.invokevirtual index) mk (Value.ref b :: argsL).toArray X₁ hg hsize hdg hW (X₁.named hnamed) (hpre vm₁ X₁.warmed) with ⟨v, B, X', hpost, hsteps⟩ | ⟨q, B, X', hpost, hsteps⟩
  · exact Or.inl ⟨v, vm₁, B, X₁.warmed, X', hpost, fun target h => hstep₁ _ fun acts => by rw [doInvoke_state]; exact hsteps.trans h⟩
  · exact Or.inr ⟨q, vm₁, B, X₁.warmed, X', hpost, hstep₁ _ fun acts => by rw [doInvoke_state]; exact hsteps⟩
theorem vx_callSX (X : Stand p l e R s m args below meth c T locs cells slots) (hexec : p.tables.exec = Jvm.exec) {own : String} {index : Nat} {y : MethodName} {bytes : ByteArray} {maxL : Nat} {ret : Option FieldType} {hh : List (Nat × Nat × Nat × Nat)}
    (hown : s.vm.findClass own = some m.cls) (hlink : (Cond.methodLink own index y).before args s = true) (hstat : (Cond.static y).before args s = true) (hinit : (Cond.initialized y.cls).before args s = true)
    (hcode : (Cond.codeWith y bytes maxL ret hh).before args s = true) (hy : y.cls ≠ "java/lang/invoke/MethodHandle" ∧ y.cls ≠ "java/lang/invoke/VarHandle")
    {W9 : Nat} {Pre : Pt → Array Value → Prop} {Post : Pt → Array Value → Option Value → Pt → Prop} {PostX : Pt → Array Value → Addr → Pt → Prop} (hK : vx_Back l R p e below s args y 3 W9 Pre Post PostX)
    {g : JFrame} (hg : g.method = m) (hsize : g.locals.size = c.maxLocals) {argsL rest : List Value} (hlen : ∀ sig, parseMethodDescriptor y.desc = some sig → argsL.length = sig.parameters.length)
    (hstack : g.stack = argsL.reverse ++ rest) (hW : 2 * g.monitorRoom + (rest.map fun v => v.category).sum ≤ W9) (hdg : decode c.code g.pc = .ok (.invokestatic index, 3))
    (hpre : ∀ vm₁, s.WarmedH vm₁ → Pre ⟨T.setVm vm₁, locs, cells, slots⟩ argsL.toArray) :
    (∃ (v : Option Value) (vm₁ : Vm) (B : Pt), s.WarmedH vm₁ ∧ Stand p l e R s m args below meth c B.U B.locs B.cells B.slots ∧ Post ⟨T.setVm vm₁, locs, cells, slots⟩ argsL.toArray v B ∧
      ∀ target, Steps p.tables e below (B.U.setTop { g with pc := g.pc + 3, stack := v.toList ++ rest }) target → Steps p.tables e below (T.setTop g) target) ∨
    (∃ (q : Addr) (vm₁ : Vm) (B : Pt), s.WarmedH vm₁ ∧ Stand p l e R s m args below meth c B.U B.locs B.cells B.slots ∧ PostX ⟨T.setVm vm₁, locs, cells, slots⟩ argsL.toArray q B ∧
      Steps p.tables e below (T.setTop g) ((B.U.setTop { g with stack := rest }).pushFrame (.throwing q))) := by
  obtain ⟨mk, methM, cM, hnamed, hmethM, -, -, -, -, -, -, hsigM⟩ := Cond.codeWith_spec hcode
  have hstatic : methM.isStatic = true := Cond.static_spec hnamed hmethM hstat
  obtain ⟨kP, hkP, -⟩ := className_of_methodNamed hnamed
  have hinitP : kP.init = .initialized := Cond.initialized_spec (findClass_of_methodNamed hnamed) hkP hinit
  obtain ⟨vm₁, X₁, hstep₁⟩ := X.invokestatic hexec hown hlink hnamed hmethM hstatic hkP hinitP hy (g := g) hg (argsL := argsL) (rest := rest) (hlen _ hsigM) hstack hdg
  rcases hK m meth c ⟨T.setVm vm₁, locs, cells, slots⟩ { g with stack := rest } (.invokestatic index) mk argsL.toArray X₁ hg hsize hdg hW (X₁.named hnamed) (hpre vm₁ X₁.warmed) with ⟨v, B, X', hpost, hsteps⟩ | ⟨q, B, X', hpost, hsteps⟩
  · exact Or.inl ⟨v, vm₁, B, X₁.warmed, X', hpost, fun target h => hstep₁ _ fun acts => by rw [doInvoke_state]; exact hsteps.trans h⟩
  · exact Or.inr ⟨q, vm₁, B, X₁.warmed, X', hpost, hstep₁ _ fun acts => by rw [doInvoke_state]; exact hsteps⟩
theorem vx_callVW (X : Stand p l e R s m args below meth c T locs cells slots) (hexec : p.tables.exec = Jvm.exec) {own C : String} {index : Nat} {y : MethodName} {bytes : ByteArray} {maxL : Nat} {ret : Option FieldType} {hh : List (Nat × Nat × Nat × Nat)}
    (hown : s.vm.findClass own = some m.cls) (hlink : (Cond.methodLink own index y).before args s = true) (hinst : (Cond.instanceMethod y).before args s = true) (hsel : (Cond.selects C y y).before args s = true)
    (hcode : (Cond.codeWith y bytes maxL ret hh).before args s = true) (hy : y.cls ≠ "java/lang/invoke/MethodHandle" ∧ y.cls ≠ "java/lang/invoke/VarHandle")
    {W9 : Nat} {Pre : Pt → Array Value → Prop} {Post : Pt → Array Value → Option Value → Pt → Prop} (hK : Back l R p e below s args y 3 W9 Pre Post)
    {b : Addr} {cellB : Cell} (hcell : T.heap[b]? = some cellB) (hobj : cellB.vm.isStatics = false) (hcls : s.vm.findClass C = some cellB.cls)
    {g : JFrame} (hg : g.method = m) (hsize : g.locals.size = c.maxLocals) {argsL rest : List Value} (hlen : ∀ sig, parseMethodDescriptor y.desc = some sig → argsL.length = sig.parameters.length)
    (hstack : g.stack = argsL.reverse ++ .ref b :: rest) (hW : 2 * g.monitorRoom + (rest.map fun v => v.category).sum ≤ W9) (hdg : decode c.code g.pc = .ok (.invokevirtual index, 3))
    (hpre : ∀ vm₁, s.WarmedH vm₁ → Pre ⟨T.setVm vm₁, locs, cells, slots⟩ (Value.ref b :: argsL).toArray) :
    ∃ (v : Option Value) (vm₁ : Vm) (B : Pt), s.WarmedH vm₁ ∧ Stand p l e R s m args below meth c B.U B.locs B.cells B.slots ∧ Post ⟨T.setVm vm₁, locs, cells, slots⟩ (Value.ref b :: argsL).toArray v B ∧
      ∀ target, Steps p.tables e below (B.U.setTop { g with pc := g.pc + 3, stack := v.toList ++ rest }) target → Steps p.tables e below (T.setTop g) target := by
  obtain ⟨mk, methM, hnamed, hmethM, hstM, habM⟩ := Cond.instanceMethod_spec hinst
  obtain ⟨m8, methM', cM, hn8, hmethM', -, -, -, -, -, -, hsigM⟩ := Cond.codeWith_spec hcode
  cases Option.some.inj (hn8.symm.trans hnamed)
  cases hmethM.symm.trans hmethM'
  obtain ⟨c2, r2, m2, q1, q2, q3, q4, kP, hkP, hkPi⟩ := Cond.selects_spec hsel
  cases hcls.symm.trans q1
  cases (State.methodFound?_of_named hnamed hy).symm.trans q2
  cases hnamed.symm.trans q3
  have hselP : selectMethod e.platform s.vm cellB.cls mk = .method mk := by rw [Launch.admits_selectMethod X.admits]; exact q4
  obtain ⟨vm₁, X₁, hstep₁⟩ := X.invokevirtual hexec hown hlink hnamed hmethM hstM hkP hkPi hy (a := b) (cell := cellB) hcell
    (fun z h => by rw [h] at hobj; cases hobj) hselP hmethM habM hkP hkPi (g := g) hg (argsL := argsL) (rest := rest) (hlen _ hsigM) hstack hdg
  obtain ⟨v, B, X', hpost, hsteps⟩ := hK m meth c ⟨T.setVm vm₁, locs, cells, slots⟩ { g with stack := rest } (.invokevirtual index) mk (Value.ref b :: argsL).toArray X₁ hg hsize hdg hW (X₁.named hnamed) (hpre vm₁ X₁.warmed)
  exact ⟨v, vm₁, B, X₁.warmed, X', hpost, fun target h => hstep₁ _ fun acts => by rw [doInvoke_state]; exact hsteps.trans h⟩
abbrev vx_CVW (R : Room) (s : State) (args : Array Value) (own C : String) (index : Nat) (y : MethodName) (bytes : ByteArray) (maxL : Nat) (ret : Option FieldType) (hh : List (Nat × Nat × Nat × Nat)) (ws : List Cond) (rm : Room) (mc ms n : Nat) : Prop :=
  (rm.cells = mc ∧ rm.slots = ms ∧ rm.frames + 1 ≤ R.frames ∧ 8 + (maxL + 11) + rm.locals ≤ R.locals ∧ (∀ w ∈ ws, ∀ (a' : Array Value) (U : State), s.WarmedH U.vm → w.before a' U = true) ∧ Cond.codeWith y bytes maxL ret hh ∈ ws) ∧
  (Cond.codeWith y bytes maxL ret hh).before args s = true ∧ (Cond.initialized y.cls).before args s = true ∧ (y.cls ≠ "java/lang/invoke/MethodHandle" ∧ y.cls ≠ "java/lang/invoke/VarHandle") ∧
  (∀ sig, parseMethodDescriptor y.desc = some sig → n = sig.parameters.length) ∧ (Cond.methodLink own index y).before args s = true ∧ (Cond.instanceMethod y).before args s = true ∧ (Cond.selects C y y).before args s = true
theorem vx_cwVW {own C : String} {index maxL mc ms : Nat} {y : MethodName} {bytes : ByteArray} {ret : Option FieldType} {hh : List (Nat × Nat × Nat × Nat)} {Ts ws ws' : List Cond} {rm : Room} (n : Nat) (ht : ∀ w ∈ Ts, w.before args s = true) (hT : GoodIn Ts (wsV own index C y ws)) (hw : ws = Cond.codeWith y bytes maxL ret hh :: ws') (hrc : rm.cells = mc) (hrs : rm.slots = ms)
    (hd : y.cls = C ∧ y.cls ≠ "java/lang/invoke/MethodHandle" ∧ y.cls ≠ "java/lang/invoke/VarHandle" ∧ (parseMethodDescriptor y.desc).map (fun d => d.parameters.length) = some n) (hR : rm.frames + 1 ≤ R.frames ∧ 8 + (maxL + 11) + rm.locals ≤ R.locals) :
    vx_CVW R s args own C index y bytes maxL ret hh ws rm mc ms n := by
  obtain ⟨hC, hd⟩ := hd
  subst hC
  have ok : ∀ w ∈ wsV own index y.cls y ws, w.before args s = true := fun w h => ht w (hT w h).1
  have hG : GoodIn Ts ws := fun w h => hT w (by unfold wsV; exact List.mem_append_right _ h)
  have hc : Cond.codeWith y bytes maxL ret hh ∈ ws := by rw [hw]; exact List.mem_cons_self
  refine ⟨⟨hrc, hrs, hR.1, hR.2, pay_in ht hG, hc⟩, ht _ (hG _ hc).1, ok _ (by simp [wsV]), ⟨hd.1, hd.2.1⟩, fun sig h => ?_, ok _ (by simp [wsV]), ok _ (by simp [wsV]), ok _ (by simp [wsV])⟩
  have h2 := hd.2.2
  rw [h] at h2
  exact (Option.some.inj h2).symm
theorem vx_runVW {y : MethodName} {bytes cc : ByteArray} {maxL nL mc ms n index : Nat} {ret : Option FieldType} {hh : List (Nat × Nat × Nat × Nat)} {ws : List Cond} {rm : Room} {Pc : Array Value → State → Prop} {Qc : Array Value → State → Outcome → State → Prop} {free : Addr → Prop} {Ts : List Cond} {own C : String} {b : Addr} {As rest : List Value} {g : JFrame}
    (S : CallFix p m c cc nL s args Ts own) (hM : Met l y ws rm Pc Qc mc ms free) (cw : vx_CVW R s args own C index y bytes maxL ret hh ws rm mc ms n) (hp : PreV s H C b Pc As)
    (hg : g.method = m) (hn : As.length = n) (hsize : g.locals.size = nL) (hstack : g.stack = As.reverse ++ .ref b :: rest) (hW : 2 * g.monitorRoom + (rest.map fun v => v.category).sum ≤ 8) (hdg : decode cc g.pc = .ok (.invokevirtual index, 3)) (hf : cells + mc ≤ R.cells ∧ slots + ms ≤ R.slots) :
    va_Run p l e R s m args below meth c H locs cells slots mc ms g rest (Qc (Value.ref b :: As).toArray) free := by
  obtain ⟨⟨hrc, hrs, hfr, hlo, hws, hcw⟩, hcode, hini, hy, hlen, hl, hin, hse⟩ := cw
  have hK : Back l R p e below s args y 3 8 (PreOf R mc ms Pc) (PostOf Qc mc ms free) := va_backW (hh := hh) (bytes := bytes) (maxL := maxL) (ret := ret) hM hp.1 hrc hrs hfr hlo hws hcw (fun a' U hW => word_at hW (Or.inl (by first | rfl | simp [Cond.onTables, Cond.keeps, Cond.steady])) hini)
  obtain ⟨hx, hb, hml, ho, -⟩ := S
  obtain ⟨-, ⟨cellB, hcB, hoB, hclB⟩, hPc⟩ := hp
  intro T hT X
  obtain ⟨v, vm₁, ⟨U', l2, c2, s2⟩, hW₁, X', ⟨g', mk, t, L, e1, e2, hq, h1, hL, h2, h3⟩, st⟩ := vx_callVW X hx (C := C) (hh := hh) (bytes := bytes) (maxL := maxL) (ret := ret) ho hl hin hse hcode hy hK (by rw [hT]; exact hcB) hoB hclB hg (hsize.trans hml.symm) (argsL := As) (rest := rest) (fun sig h => hn.trans (hlen sig h)) hstack hW (by rw [hb]; exact hdg)
    (fun vm₁ hW₁ => ⟨hf.1, hf.2, hPc (T.setVm vm₁) hT hW₁⟩)
  dsimp only [Pt.U, Pt.locs, Pt.cells, Pt.slots] at X' e1 e2 h1 h2 h3 st
  subst h1; subst h2; subst h3
  exact ⟨v, (T.setVm vm₁).calling g' mk (Value.ref b :: As).toArray, t, U', L, hT, X', hL, e1, e2, hq, st⟩
section
variable {y : MethodName} {bytes cc : ByteArray} {maxL nL mc ms n index : Nat} {ret : Option FieldType} {ws : List Cond} {rm : Room} {Pc : Array Value → State → Prop} {Qc : Array Value → State → Outcome → State → Prop} {XC : String → State → State → Prop} {free : Addr → Prop} {Ts : List Cond} {own C : String} {b : Addr} {As rest : List Value} {g : JFrame}
theorem vx_runVX {hh : List (Nat × Nat × Nat × Nat)} (S : CallFix p m c cc nL s args Ts own) (hM : vx_Met l y ws rm Pc Qc XC mc ms free) (cw : vx_CVW R s args own C index y bytes maxL ret hh ws rm mc ms n) (hp : PreV s H C b Pc As)
    (hg : g.method = m) (hn : As.length = n) (hsize : g.locals.size = nL) (hstack : g.stack = As.reverse ++ .ref b :: rest) (hW : 2 * g.monitorRoom + (rest.map fun v => v.category).sum ≤ 8) (hdg : decode cc g.pc = .ok (.invokevirtual index, 3)) (hf : cells + mc ≤ R.cells ∧ slots + ms ≤ R.slots) :
    vx_Run p l e R s m args below meth c H locs cells slots mc ms g rest (Qc (Value.ref b :: As).toArray) XC free := by
  obtain ⟨⟨hrc, hrs, hfr, hlo, hws, hcw⟩, hcode, hini, hy, hlen, hl, hin, hse⟩ := cw
  have hK : vx_Back l R p e below s args y 3 8 (PreOf R mc ms Pc) (PostOf Qc mc ms free) (vx_Post XC mc ms free) := vx_backW (hh := hh) (bytes := bytes) (maxL := maxL) (ret := ret) hM hp.1 hrc hrs hfr hlo hws hcw (fun a' U hW => word_at hW (Or.inl (by first | rfl | simp [Cond.onTables, Cond.keeps, Cond.steady])) hini)
  obtain ⟨hx, hb, hml, ho, -⟩ := S
  obtain ⟨-, ⟨cellB, hcB, hoB, hclB⟩, hPc⟩ := hp
  intro T hT X
  rcases vx_callVX X hx (C := C) (hh := hh) (bytes := bytes) (maxL := maxL) (ret := ret) ho hl hin hse hcode hy hK (by rw [hT]; exact hcB) hoB hclB hg (hsize.trans hml.symm) (argsL := As) (rest := rest) (fun sig h => hn.trans (hlen sig h)) hstack hW (by rw [hb]; exact hdg)
    (fun vm₁ hW₁ => ⟨hf.1, hf.2, hPc (T.setVm vm₁) hT hW₁⟩) with ⟨v, vm₁, ⟨U', l2, c2, s2⟩, hW₁, X', ⟨g', mk, t, L, e1, e2, hq, h1, hL, h2, h3⟩, st⟩ | ⟨q, vm₁, ⟨U', l2, c2, s2⟩, hW₁, X', ⟨g', mk, t, L, E, ce, e1, e2, hq, hce, hcv, hcl, h1, hL, h2, h3⟩, st⟩
  · dsimp only [Pt.U, Pt.locs, Pt.cells, Pt.slots] at X' e1 e2 h1 h2 h3 st
    subst h1; subst h2; subst h3
    exact Or.inl ⟨v, (T.setVm vm₁).calling g' mk (Value.ref b :: As).toArray, t, U', L, hT, X', hL, e1, e2, hq, st⟩
  · dsimp only [Pt.U, Pt.locs, Pt.cells, Pt.slots] at X' e1 e2 h1 h2 h3 st hcl
    subst h1; subst h2; subst h3
    exact Or.inr ⟨q, (T.setVm vm₁).calling g' mk (Value.ref b :: As).toArray, t, U', L, E, ce, hT, X', hL, e1, e2, hq, hce, hcv, vx_cls hW₁ hcl, st⟩
theorem vx_runSX {hh : List (Nat × Nat × Nat × Nat)} (S : CallFix p m c cc nL s args Ts own) (hM : vx_Met l y ws rm Pc Qc XC mc ms free) (cw : vx_CSW R s args own index y bytes maxL ret hh ws rm mc ms n) (hp : PreS s H Pc As)
    (hg : g.method = m) (hn : As.length = n) (hsize : g.locals.size = nL) (hstack : g.stack = As.reverse ++ rest) (hW : 2 * g.monitorRoom + (rest.map fun v => v.category).sum ≤ 8) (hdg : decode cc g.pc = .ok (.invokestatic index, 3)) (hf : cells + mc ≤ R.cells ∧ slots + ms ≤ R.slots) :
    vx_Run p l e R s m args below meth c H locs cells slots mc ms g rest (Qc As.toArray) XC free := by
  obtain ⟨⟨hrc, hrs, hfr, hlo, hws, hcw⟩, hcode, hini, hy, hlen, hl, hstt⟩ := cw
  have hK : vx_Back l R p e below s args y 3 8 (PreOf R mc ms Pc) (PostOf Qc mc ms free) (vx_Post XC mc ms free) := vx_backW (hh := hh) (bytes := bytes) (maxL := maxL) (ret := ret) hM hp.1 hrc hrs hfr hlo hws hcw (fun a' U hW => word_at hW (Or.inl (by first | rfl | simp [Cond.onTables, Cond.keeps, Cond.steady])) hini)
  obtain ⟨hx, hb, hml, ho, -⟩ := S
  intro T hT X
  rcases vx_callSX X hx (hh := hh) (bytes := bytes) (maxL := maxL) (ret := ret) ho hl hstt hini hcode hy hK hg (hsize.trans hml.symm) (argsL := As) (rest := rest) (fun sig h => hn.trans (hlen sig h)) hstack hW (by rw [hb]; exact hdg)
    (fun vm₁ hW₁ => ⟨hf.1, hf.2, hp.2 (T.setVm vm₁) hT hW₁⟩) with ⟨v, vm₁, ⟨U', l2, c2, s2⟩, hW₁, X', ⟨g', mk, t, L, e1, e2, hq, h1, hL, h2, h3⟩, st⟩ | ⟨q, vm₁, ⟨U', l2, c2, s2⟩, hW₁, X', ⟨g', mk, t, L, E, ce, e1, e2, hq, hce, hcv, hcl, h1, hL, h2, h3⟩, st⟩
  · dsimp only [Pt.U, Pt.locs, Pt.cells, Pt.slots] at X' e1 e2 h1 h2 h3 st
    subst h1; subst h2; subst h3
    exact Or.inl ⟨v, (T.setVm vm₁).calling g' mk As.toArray, t, U', L, hT, X', hL, e1, e2, hq, st⟩
  · dsimp only [Pt.U, Pt.locs, Pt.cells, Pt.slots] at X' e1 e2 h1 h2 h3 st hcl
    subst h1; subst h2; subst h3
    exact Or.inr ⟨q, (T.setVm vm₁).calling g' mk As.toArray, t, U', L, E, ce, hT, X', hL, e1, e2, hq, hce, hcv, vx_cls hW₁ hcl, st⟩
end
end VXH
theorem vx_ofWH {l : Launch} {y : MethodName} {ws ws' : List Cond} {rm : Room} {Pc : Array Value → State → Prop} {Qc : Array Value → State → Outcome → State → Prop} {XC : String → State → State → Prop} {mc ms : Nat} {free : Addr → Prop} {cc : ByteArray} {maxL : Nat} {ret : Option FieldType} {hh : List (Nat × Nat × Nat × Nat)}
    (hy : plainName y.cls = true) (hw : ws = Cond.codeWith y cc maxL ret hh :: ws')
    (body : ∀ p e s m args below meth c s₁, BodyLoose p l y (headSpec ws rm) cc maxL ret e s m args below meth c s₁ → c.maxLocals = maxL → Pc args s →
      W p l e (headSpec ws rm).room s m args below meth c s.heap [] 0 0 (vx_MQ below Qc XC args s mc ms free) (entryFrame m args maxL)) : vx_Met l y ws rm Pc Qc XC mc ms free := by
  refine MetFree.of_bodyS (code := cc) (maxLocals := maxL) (ret := ret) hy ?_ ?_
  · intro args s m h hn
    obtain ⟨m9, meth, c, hn9, h1, h2, h3, h4, -, h5, h6, -⟩ := Cond.codeWith_spec (atoms_spec (ws := ws) h _ (by rw [hw]; exact List.mem_cons_self))
    cases hn.symm.trans hn9
    exact ⟨meth, c, h1, h2, h3, h4, h5, h6⟩
  · intro p e s m args below meth c s₁ B hml hP _
    have hh0 : s₁.heap = s.heap := by rw [B.state]; rfl
    obtain ⟨t, a1, o, b1, b2, b3⟩ := body p e s m args below meth c s₁ B hml hP s₁ hh0 (Stand.of_body B)
    exact ⟨t, o, a1, b1, b2, b3⟩
/-! ===== END ===== -/
end
section
/-! ===== BEGIN a constructor that throws (launches without stack traces) ===== -/
section VXIA
variable {p : Program} {l : Launch} {e : Env} {R : Room} {s : State} {m : MethodId} {args : Array Value} {below : List Frame} {meth : Method} {c : Code} {T : State} {locs : List Loc} {cells slots : Nat}
theorem vx_callI (X : Stand p l e R s m args below meth c T locs cells slots) (hexec : p.tables.exec = Jvm.exec) {own : String} {index : Nat} {y : MethodName} {bytes : ByteArray} {maxL : Nat}
    (hown : s.vm.findClass own = some m.cls) (hy1 : y.name = "<init>") (hlink : (Cond.methodLink own index y).before args s = true) (hinst : (Cond.instanceMethod y).before args s = true)
    (hcode : (Cond.code y bytes maxL none).before args s = true) (hy : y.cls ≠ "java/lang/invoke/MethodHandle" ∧ y.cls ≠ "java/lang/invoke/VarHandle")
    {W9 : Nat} {Pre : Pt → Array Value → Prop} {Post : Pt → Array Value → Option Value → Pt → Prop} {PostX : Pt → Array Value → Addr → Pt → Prop} (hK : vx_Back l R p e below s args y 3 W9 Pre Post PostX)
    {g : JFrame} (hg : g.method = m) (hsize : g.locals.size = c.maxLocals) {a : Addr} {argsL rest : List Value} (hlen : ∀ sig, parseMethodDescriptor y.desc = some sig → argsL.length = sig.parameters.length)
    (hstack : g.stack = argsL.reverse ++ .ref a :: rest) (hW : 2 * g.monitorRoom + (rest.map fun v => v.category).sum ≤ W9) (hdg : decode c.code g.pc = .ok (.invokespecial index, 3))
    (hpre : ∀ vm₁, s.WarmedH vm₁ → Pre ⟨T.setVm vm₁, locs, cells, slots⟩ (Value.ref a :: argsL).toArray) :
    (∃ (v : Option Value) (vm₁ : Vm) (B : Pt), s.WarmedH vm₁ ∧ Stand p l e R s m args below meth c B.U B.locs B.cells B.slots ∧ Post ⟨T.setVm vm₁, locs, cells, slots⟩ (Value.ref a :: argsL).toArray v B ∧
      ∀ target, Steps p.tables e below (B.U.setTop { g with pc := g.pc + 3, stack := v.toList ++ rest }) target → Steps p.tables e below (T.setTop g) target) ∨
    (∃ (q : Addr) (vm₁ : Vm) (B : Pt), s.WarmedH vm₁ ∧ Stand p l e R s m args below meth c B.U B.locs B.cells B.slots ∧ PostX ⟨T.setVm vm₁, locs, cells, slots⟩ (Value.ref a :: argsL).toArray q B ∧
      Steps p.tables e below (T.setTop g) ((B.U.setTop { g with stack := rest }).pushFrame (.throwing q))) := by
  subst hg
  have hpl : e.platform.magicAccessors = ({} : Platform).magicAccessors := by rw [X.admits.platform]
  obtain ⟨mk, methM, cM, kP, vm₁, hnamed, hmethM, hcodeM, -, hlocalsM, -, hkP, -, hW₁, hstep₁⟩ := Steps.initColdArgs (e := e) X.here hexec X.warmed hpl hown hy1 hy hlink hinst hcode (f := g) rfl hlen hstack hdg
  have X₁ := X.noted hW₁
  rcases hK g.method meth c ⟨T.setVm vm₁, locs, cells, slots⟩ { g with stack := rest } (.invokespecial index) mk (Value.ref a :: argsL).toArray X₁ rfl hsize hdg hW (X₁.named hnamed) (hpre vm₁ X₁.warmed) with ⟨v, B, X', hpost, hsteps⟩ | ⟨q, B, X', hpost, hsteps⟩
  · exact Or.inl ⟨v, vm₁, B, X₁.warmed, X', hpost, fun target h => hstep₁ _ fun acts => by rw [doInvoke_state]; exact hsteps.trans h⟩
  · exact Or.inr ⟨q, vm₁, B, X₁.warmed, X', hpost, hstep₁ _ fun acts => by rw [doInvoke_state]; exact hsteps⟩
end VXIA
section VXIB
variable {p : Program} {l : Launch} {e : Env} {R : Room} {s : State} {m : MethodId} {args : Array Value} {below : List Frame} {meth : Method} {c : Code} {H : Heap} {locs : List Loc} {cells slots : Nat}
variable {y : MethodName} {bytes cc : ByteArray} {maxL nL mc ms n index : Nat} {ret : Option FieldType} {ws : List Cond} {rm : Room} {Pc : Array Value → State → Prop} {Qc : Array Value → State → Outcome → State → Prop} {XC : String → State → State → Prop} {free : Addr → Prop} {Ts : List Cond} {own C : String} {b : Addr} {As rest : List Value} {g : JFrame}
theorem vx_runI (S : CallFix p m c cc nL s args Ts own) (hM : vx_Met l y ws rm Pc Qc XC mc ms free) (cw : CallB R s args own index y bytes maxL none ws rm mc ms n ∧ y.name = "<init>" ∧ (Cond.instanceMethod y).before args s = true) (hp : PreS s H Pc (.ref b :: As))
    (hg : g.method = m) (hn : As.length = n) (hsize : g.locals.size = nL) (hstack : g.stack = As.reverse ++ .ref b :: rest) (hW : 2 * g.monitorRoom + (rest.map fun v => v.category).sum ≤ 8) (hdg : decode cc g.pc = .ok (.invokespecial index, 3)) (hf : cells + mc ≤ R.cells ∧ slots + ms ≤ R.slots) :
    vx_Run p l e R s m args below meth c H locs cells slots mc ms g rest (Qc (Value.ref b :: As).toArray) XC free := by
  have hK : vx_Back l R p e below s args y 3 8 (PreOf R mc ms Pc) (PostOf Qc mc ms free) (vx_Post XC mc ms free) := vx_callBack cw.1 hM hp.1
  obtain ⟨⟨-, -, -, -, -, -, hcode, -, hy, hlen, hl⟩, hy1, hin⟩ := cw
  obtain ⟨hx, hb, hml, ho, -⟩ := S
  have hPc := hp.2
  intro T hT X
  rcases vx_callI X hx (bytes := bytes) (maxL := maxL) ho hy1 hl hin hcode hy hK hg (hsize.trans hml.symm) (a := b) (argsL := As) (rest := rest) (fun sig h => hn.trans (hlen sig h)) hstack hW (by rw [hb]; exact hdg)
    (fun vm₁ hW₁ => ⟨hf.1, hf.2, hPc (T.setVm vm₁) hT hW₁⟩) with ⟨v, vm₁, ⟨U', l2, c2, s2⟩, hW₁, X', ⟨g', mk, t, L, e1, e2, hq, h1, hL, h2, h3⟩, st⟩ | ⟨q, vm₁, ⟨U', l2, c2, s2⟩, hW₁, X', ⟨g', mk, t, L, E, ce, e1, e2, hq, hce, hcv, hcl, h1, hL, h2, h3⟩, st⟩
  · dsimp only [Pt.U, Pt.locs, Pt.cells, Pt.slots] at X' e1 e2 h1 h2 h3 st
    subst h1; subst h2; subst h3
    exact Or.inl ⟨v, (T.setVm vm₁).calling g' mk (Value.ref b :: As).toArray, t, U', L, hT, X', hL, e1, e2, hq, st⟩
  · dsimp only [Pt.U, Pt.locs, Pt.cells, Pt.slots] at X' e1 e2 h1 h2 h3 st hcl
    subst h1; subst h2; subst h3
    exact Or.inr ⟨q, (T.setVm vm₁).calling g' mk (Value.ref b :: As).toArray, t, U', L, E, ce, hT, X', hL, e1, e2, hq, hce, hcv, vx_cls hW₁ hcl, st⟩
end VXIB
/-! ===== END ===== -/
/-! ===== BEGIN a private constructor of a nest mate that throws ===== -/
section VXIC
variable {p : Program} {l : Launch} {e : Env} {R : Room} {s : State} {m : MethodId} {args : Array Value} {below : List Frame} {meth : Method} {c : Code} {T : State} {locs : List Loc} {cells slots : Nat}
theorem vx_callIN (X : Stand p l e R s m args below meth c T locs cells slots) (hexec : p.tables.exec = Jvm.exec) {own : String} {index : Nat} {host : String} {y : MethodName} {bytes : ByteArray} {maxL : Nat}
    (hown : s.vm.findClass own = some m.cls) (hy1 : y.name = "<init>") (hlink : (Cond.methodLinkNest own index y host).before args s = true) (hinst : (Cond.instanceMethod y).before args s = true)
    (hcode : (Cond.code y bytes maxL none).before args s = true) (hy : y.cls ≠ "java/lang/invoke/MethodHandle" ∧ y.cls ≠ "java/lang/invoke/VarHandle")
    {W9 : Nat} {Pre : Pt → Array Value → Prop} {Post : Pt → Array Value → Option Value → Pt → Prop} {PostX : Pt → Array Value → Addr → Pt → Prop} (hK : vx_Back l R p e below s args y 3 W9 Pre Post PostX)
    {g : JFrame} (hg : g.method = m) (hsize : g.locals.size = c.maxLocals) {a : Addr} {argsL rest : List Value} (hlen : ∀ sig, parseMethodDescriptor y.desc = some sig → argsL.length = sig.parameters.length)
    (hstack : g.stack = argsL.reverse ++ .ref a :: rest) (hW : 2 * g.monitorRoom + (rest.map fun v => v.category).sum ≤ W9) (hdg : decode c.code g.pc = .ok (.invokespecial index, 3))
    (hpre : ∀ vm₁, s.WarmedH vm₁ → Pre ⟨T.setVm vm₁, locs, cells, slots⟩ (Value.ref a :: argsL).toArray) :
    (∃ (v : Option Value) (vm₁ : Vm) (B : Pt), s.WarmedH vm₁ ∧ Stand p l e R s m args below meth c B.U B.locs B.cells B.slots ∧ Post ⟨T.setVm vm₁, locs, cells, slots⟩ (Value.ref a :: argsL).toArray v B ∧
      ∀ target, Steps p.tables e below (B.U.setTop { g with pc := g.pc + 3, stack := v.toList ++ rest }) target → Steps p.tables e below (T.setTop g) target) ∨
    (∃ (q : Addr) (vm₁ : Vm) (B : Pt), s.WarmedH vm₁ ∧ Stand p l e R s m args below meth c B.U B.locs B.cells B.slots ∧ PostX ⟨T.setVm vm₁, locs, cells, slots⟩ (Value.ref a :: argsL).toArray q B ∧
      Steps p.tables e below (T.setTop g) ((B.U.setTop { g with stack := rest }).pushFrame (.throwing q))) := by
  subst hg
  have hpl : e.platform.magicAccessors = ({} : Platform).magicAccessors := by rw [X.admits.platform]
  obtain ⟨mk, methM, cM, kP, vm₁, hnamed, hmethM, hcodeM, -, hlocalsM, -, hkP, -, hW₁, hstep₁⟩ := Steps.initColdArgsNest (e := e) X.here hexec X.warmed hpl hown hy1 hy hlink hinst hcode (f := g) rfl hlen hstack hdg
  have X₁ := X.noted hW₁
  rcases hK g.method meth c ⟨T.setVm vm₁, locs, cells, slots⟩ { g with stack := rest } (.invokespecial index) mk (Value.ref a :: argsL).toArray X₁ rfl hsize hdg hW (X₁.named hnamed) (hpre vm₁ X₁.warmed) with ⟨v, B, X', hpost, hsteps⟩ | ⟨q, B, X', hpost, hsteps⟩
  · exact Or.inl ⟨v, vm₁, B, X₁.warmed, X', hpost, fun target h => hstep₁ _ fun acts => by rw [doInvoke_state]; exact hsteps.trans h⟩
  · exact Or.inr ⟨q, vm₁, B, X₁.warmed, X', hpost, hstep₁ _ fun acts => by rw [doInvoke_state]; exact hsteps⟩
end VXIC
section VXID
variable {p : Program} {l : Launch} {e : Env} {R : Room} {s : State} {m : MethodId} {args : Array Value} {below : List Frame} {meth : Method} {c : Code} {H : Heap} {locs : List Loc} {cells slots : Nat}
theorem vx_runIN {y : MethodName} {bytes cc : ByteArray} {maxL nL mc ms n index : Nat} {ws : List Cond} {rm : Room} {Pc : Array Value → State → Prop} {Qc : Array Value → State → Outcome → State → Prop} {XC : String → State → State → Prop} {free : Addr → Prop} {Ts : List Cond} {own host : String} {b : Addr} {As rest : List Value} {g : JFrame}
    (S : CallFix p m c cc nL s args Ts own) (hM : vx_Met l y ws rm Pc Qc XC mc ms free) (cw : va_CN R s args own index y host bytes maxL none ws rm mc ms n ∧ y.name = "<init>" ∧ (Cond.instanceMethod y).before args s = true) (hp : PreS s H Pc (.ref b :: As))
    (hg : g.method = m) (hn : As.length = n) (hsize : g.locals.size = nL) (hstack : g.stack = As.reverse ++ .ref b :: rest) (hW : 2 * g.monitorRoom + (rest.map fun v => v.category).sum ≤ 8) (hdg : decode cc g.pc = .ok (.invokespecial index, 3)) (hf : cells + mc ≤ R.cells ∧ slots + ms ≤ R.slots) :
    vx_Run p l e R s m args below meth c H locs cells slots mc ms g rest (Qc (Value.ref b :: As).toArray) XC free := by
  obtain ⟨⟨⟨hrc, hrs, hfr, hlo, hws, hcw⟩, hcode, hini, hy, hlen, hl⟩, hx1, hx2⟩ := cw
  have hK : vx_Back l R p e below s args y 3 8 (PreOf R mc ms Pc) (PostOf Qc mc ms free) (vx_Post XC mc ms free) := vx_back (bytes := bytes) (maxL := maxL) (ret := none) hM hp.1 hrc hrs hfr hlo hws hcw (fun a' U hW => word_at hW (Or.inl (by first | rfl | simp [Cond.onTables, Cond.keeps, Cond.steady])) hini)
  obtain ⟨hx, hb, hml, ho, -⟩ := S
  have hPc := hp.2
  intro T hT X
  rcases vx_callIN X hx (bytes := bytes) (maxL := maxL) ho hx1 hl hx2 hcode hy hK hg (hsize.trans hml.symm) (a := b) (argsL := As) (rest := rest) (fun sig h => hn.trans (hlen sig h)) hstack hW (by rw [hb]; exact hdg)
    (fun vm₁ hW₁ => ⟨hf.1, hf.2, hPc (T.setVm vm₁) hT hW₁⟩) with ⟨v, vm₁, ⟨U', l2, c2, s2⟩, hW₁, X', ⟨g', mk, t, L, e1, e2, hq, h1, hL, h2, h3⟩, st⟩ | ⟨q, vm₁, ⟨U', l2, c2, s2⟩, hW₁, X', ⟨g', mk, t, L, E, ce, e1, e2, hq, hce, hcv, hcl, h1, hL, h2, h3⟩, st⟩
  · dsimp only [Pt.U, Pt.locs, Pt.cells, Pt.slots] at X' e1 e2 h1 h2 h3 st
    subst h1; subst h2; subst h3
    exact Or.inl ⟨v, (T.setVm vm₁).calling g' mk (Value.ref b :: As).toArray, t, U', L, hT, X', hL, e1, e2, hq, st⟩
  · dsimp only [Pt.U, Pt.locs, Pt.cells, Pt.slots] at X' e1 e2 h1 h2 h3 st hcl
    subst h1; subst h2; subst h3
    exact Or.inr ⟨q, (T.setVm vm₁).calling g' mk (Value.ref b :: As).toArray, t, U', L, E, ce, hT, X', hL, e1, e2, hq, hce, hcv, vx_cls hW₁ hcl, st⟩
end VXID
/-! ===== END ===== -/
/-! ===== BEGIN a private method of a nest mate that may throw (follows va_callVN, va_callSN, va_runVN, va_runSN) ===== -/
section
variable {p : Program} {l : Launch} {e : Env} {R : Room} {s : State} {m : MethodId} {args : Array Value} {below : List Frame} {meth : Method} {c : Code} {H : Heap} {locs : List Loc} {cells slots : Nat}
variable {T : State}
theorem vx_callVN (X : Stand p l e R s m args below meth c T locs cells slots) (hexec : p.tables.exec = Jvm.exec) {own C : String} {index : Nat} {host : String} {y : MethodName} {bytes : ByteArray} {maxL : Nat} {ret : Option FieldType}
    (hown : s.vm.findClass own = some m.cls) (hlink : (Cond.methodLinkNest own index y host).before args s = true) (hinst : (Cond.instanceMethod y).before args s = true) (hsel : (Cond.selects C y y).before args s = true)
    (hcode : (Cond.code y bytes maxL ret).before args s = true) (hy : y.cls ≠ "java/lang/invoke/MethodHandle" ∧ y.cls ≠ "java/lang/invoke/VarHandle")
    {W : Nat} {Pre : Pt → Array Value → Prop} {Post : Pt → Array Value → Option Value → Pt → Prop} {PostX : Pt → Array Value → Addr → Pt → Prop} (hK : vx_Back l R p e below s args y 3 W Pre Post PostX)
    {b : Addr} {cellB : Cell} (hcell : T.heap[b]? = some cellB) (hobj : cellB.vm.isStatics = false) (hcls : s.vm.findClass C = some cellB.cls)
    {g : JFrame} (hg : g.method = m) (hsize : g.locals.size = c.maxLocals) {argsL rest : List Value} (hlen : ∀ sig, parseMethodDescriptor y.desc = some sig → argsL.length = sig.parameters.length)
    (hstack : g.stack = argsL.reverse ++ .ref b :: rest) (hW : 2 * g.monitorRoom + (rest.map fun v => v.category).sum ≤ W) (hdg : decode c.code g.pc = .ok (.invokevirtual index, 3))
    (hpre : ∀ vm₁, s.WarmedH vm₁ → Pre ⟨T.setVm vm₁, locs, cells, slots⟩ (Value.ref b :: argsL).toArray) :
    (∃ (v : Option Value) (vm₁ : Vm) (B : Pt), s.WarmedH vm₁ ∧ Stand p l e R s m args below meth c B.U B.locs B.cells B.slots ∧ Post ⟨T.setVm vm₁, locs, cells, slots⟩ (Value.ref b :: argsL).toArray v B ∧
      ∀ target, Steps p.tables e below (B.U.setTop { g with pc := g.pc + 3, stack := v.toList ++ rest }) target → Steps p.tables e below (T.setTop g) target) ∨
    (∃ (q : Addr) (vm₁ : Vm) (B : Pt), s.WarmedH vm₁ ∧ Stand p l e R s m args below meth c B.U B.locs B.cells B.slots ∧ PostX ⟨T.setVm vm₁, locs, cells, slots⟩ (Value.ref b :: argsL).toArray q B ∧
      Steps p.tables e below (T.setTop g) ((B.U.setTop { g with stack := rest }).pushFrame (.throwing q))) := by
  obtain ⟨mk, methM, hnamed, hmethM, hstM, habM⟩ := Cond.instanceMethod_spec hinst
  obtain ⟨methM', cM, hmethM', -, -, -, -, -, -, hsigM⟩ := Cond.code_spec hnamed hcode
  cases hmethM.symm.trans hmethM'
  obtain ⟨c2, r2, m2, q1, q2, q3, q4, kP, hkP, hkPi⟩ := Cond.selects_spec hsel
  cases hcls.symm.trans q1
  cases (State.methodFound?_of_named hnamed hy).symm.trans q2
  cases hnamed.symm.trans q3
  have hselP : selectMethod e.platform s.vm cellB.cls mk = .method mk := by rw [Launch.admits_selectMethod X.admits]; exact q4
  obtain ⟨vm₁, X₁, hstep₁⟩ := X.invokevirtualNest hexec hown hlink hnamed hmethM hstM hkP hkPi hy (a := b) (cell := cellB) hcell
    (fun z h => by rw [h] at hobj; cases hobj) hselP hmethM habM hkP hkPi (g := g) hg (argsL := argsL) (rest := rest) (hlen _ hsigM) hstack hdg
  rcases hK m meth c ⟨T.setVm vm₁, locs, cells, slots⟩ { g with stack := rest } (.invokevirtual index) mk (Value.ref b :: argsL).toArray X₁ hg hsize hdg hW (X₁.named hnamed) (hpre vm₁ X₁.warmed) with ⟨v, B, X', hpost, hsteps⟩ | ⟨q, B, X', hpost, hsteps⟩
  · exact Or.inl ⟨v, vm₁, B, X₁.warmed, X', hpost, fun target h => hstep₁ _ fun acts => by rw [doInvoke_state]; exact hsteps.trans h⟩
  · exact Or.inr ⟨q, vm₁, B, X₁.warmed, X', hpost, hstep₁ _ fun acts => by rw [doInvoke_state]; exact hsteps⟩
theorem vx_callSN (X : Stand p l e R s m args below meth c T locs cells slots) (hexec : p.tables.exec = Jvm.exec) {own : String} {index : Nat} {host : String} {y : MethodName} {bytes : ByteArray} {maxL : Nat} {ret : Option FieldType}
    (hown : s.vm.findClass own = some m.cls) (hlink : (Cond.methodLinkNest own index y host).before args s = true) (hstat : (Cond.static y).before args s = true) (hinit : (Cond.initialized y.cls).before args s = true)
    (hcode : (Cond.code y bytes maxL ret).before args s = true) (hy : y.cls ≠ "java/lang/invoke/MethodHandle" ∧ y.cls ≠ "java/lang/invoke/VarHandle")
    {W : Nat} {Pre : Pt → Array Value → Prop} {Post : Pt → Array Value → Option Value → Pt → Prop} {PostX : Pt → Array Value → Addr → Pt → Prop} (hK : vx_Back l R p e below s args y 3 W Pre Post PostX)
    {g : JFrame} (hg : g.method = m) (hsize : g.locals.size = c.maxLocals) {argsL rest : List Value} (hlen : ∀ sig, parseMethodDescriptor y.desc = some sig → argsL.length = sig.parameters.length)
    (hstack : g.stack = argsL.reverse ++ rest) (hW : 2 * g.monitorRoom + (rest.map fun v => v.category).sum ≤ W) (hdg : decode c.code g.pc = .ok (.invokestatic index, 3))
    (hpre : ∀ vm₁, s.WarmedH vm₁ → Pre ⟨T.setVm vm₁, locs, cells, slots⟩ argsL.toArray) :
    (∃ (v : Option Value) (vm₁ : Vm) (B : Pt), s.WarmedH vm₁ ∧ Stand p l e R s m args below meth c B.U B.locs B.cells B.slots ∧ Post ⟨T.setVm vm₁, locs, cells, slots⟩ argsL.toArray v B ∧
      ∀ target, Steps p.tables e below (B.U.setTop { g with pc := g.pc + 3, stack := v.toList ++ rest }) target → Steps p.tables e below (T.setTop g) target) ∨
    (∃ (q : Addr) (vm₁ : Vm) (B : Pt), s.WarmedH vm₁ ∧ Stand p l e R s m args below meth c B.U B.locs B.cells B.slots ∧ PostX ⟨T.setVm vm₁, locs, cells, slots⟩ argsL.toArray q B ∧
      Steps p.tables e below (T.setTop g) ((B.U.setTop { g with stack := rest }).pushFrame (.throwing q))) := by
  obtain ⟨mk, hnamed⟩ := Cond.code_named hcode
  obtain ⟨methM, cM, hmethM, -, -, -, -, -, -, hsigM⟩ := Cond.code_spec hnamed hcode
  have hstatic : methM.isStatic = true := Cond.static_spec hnamed hmethM hstat
  obtain ⟨kP, hkP, -⟩ := className_of_methodNamed hnamed
  have hinitP : kP.init = .initialized := Cond.initialized_spec (findClass_of_methodNamed hnamed) hkP hinit
  obtain ⟨vm₁, X₁, hstep₁⟩ := X.invokestaticNest hexec hown hlink hnamed hmethM hstatic hkP hinitP hy (g := g) hg (argsL := argsL) (rest := rest) (hlen _ hsigM) hstack hdg
  rcases hK m meth c ⟨T.setVm vm₁, locs, cells, slots⟩ { g with stack := rest } (.invokestatic index) mk argsL.toArray X₁ hg hsize hdg hW (X₁.named hnamed) (hpre vm₁ X₁.warmed) with ⟨v, B, X', hpost, hsteps⟩ | ⟨q, B, X', hpost, hsteps⟩
  · exact Or.inl ⟨v, vm₁, B, X₁.warmed, X', hpost, fun target h => hstep₁ _ fun acts => by rw [doInvoke_state]; exact hsteps.trans h⟩
  · exact Or.inr ⟨q, vm₁, B, X₁.warmed, X', hpost, hstep₁ _ fun acts => by rw [doInvoke_state]; exact hsteps⟩
theorem vx_runVN {y : MethodName} {bytes cc : ByteArray} {maxL nL mc ms n index : Nat} {ret : Option FieldType} {ws : List Cond} {rm : Room} {Pc : Array Value → State → Prop} {Qc : Array Value → State → Outcome → State → Prop} {XC : String → State → State → Prop} {free : Addr → Prop} {Ts : List Cond} {own C host : String} {b : Addr} {As rest : List Value} {g : JFrame}
    (S : CallFix p m c cc nL s args Ts own) (hM : vx_Met l y ws rm Pc Qc XC mc ms free) (cw : va_CN R s args own index y host bytes maxL ret ws rm mc ms n ∧ (Cond.instanceMethod y).before args s = true ∧ (Cond.selects C y y).before args s = true) (hp : PreV s H C b Pc As)
    (hg : g.method = m) (hn : As.length = n) (hsize : g.locals.size = nL) (hstack : g.stack = As.reverse ++ .ref b :: rest) (hW : 2 * g.monitorRoom + (rest.map fun v => v.category).sum ≤ 8) (hdg : decode cc g.pc = .ok (.invokevirtual index, 3)) (hf : cells + mc ≤ R.cells ∧ slots + ms ≤ R.slots) :
    vx_Run p l e R s m args below meth c H locs cells slots mc ms g rest (Qc (Value.ref b :: As).toArray) XC free := by
  obtain ⟨⟨⟨hrc, hrs, hfr, hlo, hws, hcw⟩, hcode, hini, hy, hlen, hl⟩, hx1, hx2⟩ := cw
  have hK : vx_Back l R p e below s args y 3 8 (PreOf R mc ms Pc) (PostOf Qc mc ms free) (vx_Post XC mc ms free) := vx_back (bytes := bytes) (maxL := maxL) (ret := ret) hM hp.1 hrc hrs hfr hlo hws hcw (fun a' U hW => word_at hW (Or.inl (by first | rfl | simp [Cond.onTables, Cond.keeps, Cond.steady])) hini)
  obtain ⟨hx, hb, hml, ho, -⟩ := S
  obtain ⟨-, ⟨cellB, hcB, hoB, hclB⟩, hPc⟩ := hp
  intro T hT X
  rcases vx_callVN X hx (C := C) (bytes := bytes) (maxL := maxL) (ret := ret) ho hl hx1 hx2 hcode hy hK (by rw [hT]; exact hcB) hoB hclB hg (hsize.trans hml.symm) (argsL := As) (rest := rest) (fun sig h => hn.trans (hlen sig h)) hstack hW (by rw [hb]; exact hdg)
    (fun vm₁ hW₁ => ⟨hf.1, hf.2, hPc (T.setVm vm₁) hT hW₁⟩) with ⟨v, vm₁, ⟨U', l2, c2, s2⟩, hW₁, X', ⟨g', mk, t, L, e1, e2, hq, h1, hL, h2, h3⟩, st⟩ | ⟨q, vm₁, ⟨U', l2, c2, s2⟩, hW₁, X', ⟨g', mk, t, L, E, ce, e1, e2, hq, hce, hcv, hcl, h1, hL, h2, h3⟩, st⟩
  · dsimp only [Pt.U, Pt.locs, Pt.cells, Pt.slots] at X' e1 e2 h1 h2 h3 st
    subst h1; subst h2; subst h3
    exact Or.inl ⟨v, (T.setVm vm₁).calling g' mk (Value.ref b :: As).toArray, t, U', L, hT, X', hL, e1, e2, hq, st⟩
  · dsimp only [Pt.U, Pt.locs, Pt.cells, Pt.slots] at X' e1 e2 h1 h2 h3 st hcl
    subst h1; subst h2; subst h3
    exact Or.inr ⟨q, (T.setVm vm₁).calling g' mk (Value.ref b :: As).toArray, t, U', L, E, ce, hT, X', hL, e1, e2, hq, hce, hcv, vx_cls hW₁ hcl, st⟩
theorem vx_runSN {y : MethodName} {bytes cc : ByteArray} {maxL nL mc ms n index : Nat} {ret : Option FieldType} {ws : List Cond} {rm : Room} {Pc : Array Value → State → Prop} {Qc : Array Value → State → Outcome → State → Prop} {XC : String → State → State → Prop} {free : Addr → Prop} {Ts : List Cond} {own host : String} {As rest : List Value} {g : JFrame}
    (S : CallFix p m c cc nL s args Ts own) (hM : vx_Met l y ws rm Pc Qc XC mc ms free) (cw : va_CN R s args own index y host bytes maxL ret ws rm mc ms n ∧ (Cond.static y).before args s = true ∧ True) (hp : PreS s H Pc As)
    (hg : g.method = m) (hn : As.length = n) (hsize : g.locals.size = nL) (hstack : g.stack = As.reverse ++ rest) (hW : 2 * g.monitorRoom + (rest.map fun v => v.category).sum ≤ 8) (hdg : decode cc g.pc = .ok (.invokestatic index, 3)) (hf : cells + mc ≤ R.cells ∧ slots + ms ≤ R.slots) :
    vx_Run p l e R s m args below meth c H locs cells slots mc ms g rest (Qc As.toArray) XC free := by
  obtain ⟨⟨⟨hrc, hrs, hfr, hlo, hws, hcw⟩, hcode, hini, hy, hlen, hl⟩, hx1, hx2⟩ := cw
  have hK : vx_Back l R p e below s args y 3 8 (PreOf R mc ms Pc) (PostOf Qc mc ms free) (vx_Post XC mc ms free) := vx_back (bytes := bytes) (maxL := maxL) (ret := ret) hM hp.1 hrc hrs hfr hlo hws hcw (fun a' U hW => word_at hW (Or.inl (by first | rfl | simp [Cond.onTables, Cond.keeps, Cond.steady])) hini)
  obtain ⟨hx, hb, hml, ho, -⟩ := S
  have hPc := hp.2
  intro T hT X
  rcases vx_callSN X hx (bytes := bytes) (maxL := maxL) (ret := ret) ho hl hx1 hini hcode hy hK hg (hsize.trans hml.symm) (argsL := As) (rest := rest) (fun sig h => hn.trans (hlen sig h)) hstack hW (by rw [hb]; exact hdg)
    (fun vm₁ hW₁ => ⟨hf.1, hf.2, hPc (T.setVm vm₁) hT hW₁⟩) with ⟨v, vm₁, ⟨U', l2, c2, s2⟩, hW₁, X', ⟨g', mk, t, L, e1, e2, hq, h1, hL, h2, h3⟩, st⟩ | ⟨q, vm₁, ⟨U', l2, c2, s2⟩, hW₁, X', ⟨g', mk, t, L, E, ce, e1, e2, hq, hce, hcv, hcl, h1, hL, h2, h3⟩, st⟩
  · dsimp only [Pt.U, Pt.locs, Pt.cells, Pt.slots] at X' e1 e2 h1 h2 h3 st
    subst h1; subst h2; subst h3
    exact Or.inl ⟨v, (T.setVm vm₁).calling g' mk As.toArray, t, U', L, hT, X', hL, e1, e2, hq, st⟩
  · dsimp only [Pt.U, Pt.locs, Pt.cells, Pt.slots] at X' e1 e2 h1 h2 h3 st hcl
    subst h1; subst h2; subst h3
    exact Or.inr ⟨q, (T.setVm vm₁).calling g' mk As.toArray, t, U', L, E, ce, hT, X', hL, e1, e2, hq, hce, hcv, vx_cls hW₁ hcl, st⟩
end
/-! ===== END ===== -/
end
section
/-! ===== BEGIN printed: names, fields, word lists, decode rows ===== -/
def RX0 : String := "ArmtowerLine$Arm"
def TX0 : u_T := fun k => match k with
  | 0 => ("ArmtowerLine$Arm", "kept", "[I", true)
  | 1 => ("ArmtowerLine$Arm", "count", "I", false)
  | 2 => ("ArmtowerLine$Arm", "urgentLeft", "I", false)
  | 3 => ("ArmtowerLine$Arm", "shown", "I", false)
  | _ => ("ArmtowerLine$Arm", "entries", "LArmtowerLine$Log;", true)
def tyX0 : Nat → FieldType := fun k => match k with
  | 0 => .array .int
  | 1 => .int
  | 2 => .int
  | 3 => .int
  | _ => .object "ArmtowerLine$Log"
abbrev wsX00 : List Cond := u_ws RX0 TX0 5
theorem nmX0 : ∀ a, a < 5 → ∀ b, b < 5 → a ≠ b → (TX0 a).2.1 ≠ (TX0 b).2.1 := by decide +kernel
theorem tyX0_ok : ∀ k, k < 5 → parseFieldDescriptor (TX0 k).2.2.1 = some (tyX0 k) := by decide +kernel
abbrev cX0_init : ByteArray := prog_2_method_1_code
def yX0_init : MethodName := ⟨RX0, "<init>", "()V"⟩
abbrev cX0_keepOne : ByteArray := prog_2_method_2_code
def yX0_keepOne : MethodName := ⟨RX0, "keepOne", "(I)Z"⟩
abbrev cX0_keepAll : ByteArray := prog_2_method_3_code
def yX0_keepAll : MethodName := ⟨RX0, "keepAll", "([IIZ)Z"⟩
abbrev cX0_removeFirst : ByteArray := prog_2_method_4_code
def yX0_removeFirst : MethodName := ⟨RX0, "removeFirst", "()I"⟩
def RX1 : String := "ArmtowerLine$Book"
def TX1 : u_T := fun k => match k with
  | 0 => ("ArmtowerLine$Book", "spots", "[I", true)
  | 1 => ("ArmtowerLine$Book", "phrases", "[I", true)
  | _ => ("ArmtowerLine$Book", "count", "I", false)
def tyX1 : Nat → FieldType := fun k => match k with
  | 0 => .array .int
  | 1 => .array .int
  | _ => .int
abbrev wsX10 : List Cond := u_ws RX1 TX1 3
theorem nmX1 : ∀ a, a < 3 → ∀ b, b < 3 → a ≠ b → (TX1 a).2.1 ≠ (TX1 b).2.1 := by decide +kernel
theorem tyX1_ok : ∀ k, k < 3 → parseFieldDescriptor (TX1 k).2.2.1 = some (tyX1 k) := by decide +kernel
abbrev cX1_init : ByteArray := prog_3_method_1_code
def yX1_init : MethodName := ⟨RX1, "<init>", "()V"⟩
abbrev cX1_indexOf : ByteArray := prog_3_method_2_code
def yX1_indexOf : MethodName := ⟨RX1, "indexOf", "(I)I"⟩
abbrev cX1_phraseAt : ByteArray := prog_3_method_3_code
def yX1_phraseAt : MethodName := ⟨RX1, "phraseAt", "(I)I"⟩
abbrev cX1_lowestSpotOf : ByteArray := prog_3_method_4_code
def yX1_lowestSpotOf : MethodName := ⟨RX1, "lowestSpotOf", "(I)I"⟩
abbrev cX1_put : ByteArray := prog_3_method_5_code
def yX1_put : MethodName := ⟨RX1, "put", "(II)Z"⟩
abbrev cX1_add : ByteArray := prog_3_method_6_code
def yX1_add : MethodName := ⟨RX1, "add", "(II)Z"⟩
abbrev cX1_remove : ByteArray := prog_3_method_7_code
def yX1_remove : MethodName := ⟨RX1, "remove", "(I)V"⟩
def RX2 : String := "ArmtowerLine$Dispatch"
def TX2 : u_T := fun k => match k with
  | 0 => ("ArmtowerLine$Dispatch", "begun", "I", true)
  | 1 => ("ArmtowerLine$Dispatch", "ended", "I", false)
  | 2 => ("ArmtowerLine$Dispatch", "urgent", "Z", true)
  | 3 => ("ArmtowerLine$Dispatch", "signs", "[I", true)
  | 4 => ("ArmtowerLine$Dispatch", "count", "I", false)
  | _ => ("ArmtowerLine$Dispatch", "below", "LArmtowerLine$Dispatch;", true)
def tyX2 : Nat → FieldType := fun k => match k with
  | 0 => .int
  | 1 => .int
  | 2 => .boolean
  | 3 => .array .int
  | 4 => .int
  | _ => .object "ArmtowerLine$Dispatch"
abbrev wsX20 : List Cond := u_ws RX2 TX2 6
theorem nmX2 : ∀ a, a < 6 → ∀ b, b < 6 → a ≠ b → (TX2 a).2.1 ≠ (TX2 b).2.1 := by decide +kernel
theorem tyX2_ok : ∀ k, k < 6 → parseFieldDescriptor (TX2 k).2.2.1 = some (tyX2 k) := by decide +kernel
abbrev cX2_init : ByteArray := prog_4_method_1_code
def yX2_init : MethodName := ⟨RX2, "<init>", "(IZLArmtowerLine$Dispatch;)V"⟩
abbrev cX2_add : ByteArray := prog_4_method_2_code
def yX2_add : MethodName := ⟨RX2, "add", "(I)V"⟩
abbrev cX2_spots : ByteArray := prog_4_method_3_code
def yX2_spots : MethodName := ⟨RX2, "spots", "()I"⟩
abbrev cX2_tell : ByteArray := prog_4_method_4_code
def yX2_tell : MethodName := ⟨RX2, "tell", "(I)I"⟩
def RX3 : String := "ArmtowerLine$Log"
def TX3 : u_T := fun k => match k with
  | 0 => ("ArmtowerLine$Log", "minutes", "[I", true)
  | 1 => ("ArmtowerLine$Log", "signs", "[I", true)
  | 2 => ("ArmtowerLine$Log", "own", "[Z", true)
  | _ => ("ArmtowerLine$Log", "count", "I", false)
def tyX3 : Nat → FieldType := fun k => match k with
  | 0 => .array .int
  | 1 => .array .int
  | 2 => .array .boolean
  | _ => .int
abbrev wsX30 : List Cond := u_ws RX3 TX3 4
theorem nmX3 : ∀ a, a < 4 → ∀ b, b < 4 → a ≠ b → (TX3 a).2.1 ≠ (TX3 b).2.1 := by decide +kernel
theorem tyX3_ok : ∀ k, k < 4 → parseFieldDescriptor (TX3 k).2.2.1 = some (tyX3 k) := by decide +kernel
abbrev cX3_init : ByteArray := prog_5_method_1_code
def yX3_init : MethodName := ⟨RX3, "<init>", "()V"⟩
abbrev cX3_enter : ByteArray := prog_5_method_2_code
def yX3_enter : MethodName := ⟨RX3, "enter", "(IIZ)V"⟩
abbrev cX3_tell : ByteArray := prog_5_method_3_code
def yX3_tell : MethodName := ⟨RX3, "tell", "(II)I"⟩
abbrev cX3_nextTaken : ByteArray := prog_5_method_4_code
def yX3_nextTaken : MethodName := ⟨RX3, "nextTaken", "(I)I"⟩
def RX4 : String := "ArmtowerLine$Spy"
def TX4 : u_T := fun k => match k with
  | 0 => ("ArmtowerLine$Spy", "tower", "I", true)
  | 1 => ("ArmtowerLine$Spy", "signs", "[I", true)
  | _ => ("ArmtowerLine$Spy", "count", "I", false)
def tyX4 : Nat → FieldType := fun k => match k with
  | 0 => .int
  | 1 => .array .int
  | _ => .int
abbrev wsX40 : List Cond := u_ws RX4 TX4 3
theorem nmX4 : ∀ a, a < 3 → ∀ b, b < 3 → a ≠ b → (TX4 a).2.1 ≠ (TX4 b).2.1 := by decide +kernel
theorem tyX4_ok : ∀ k, k < 3 → parseFieldDescriptor (TX4 k).2.2.1 = some (tyX4 k) := by decide +kernel
abbrev cX4_init : ByteArray := prog_6_method_1_code
def yX4_init : MethodName := ⟨RX4, "<init>", "(I)V"⟩
abbrev cX4_note : ByteArray := prog_6_method_2_code
def yX4_note : MethodName := ⟨RX4, "note", "(I)V"⟩
def RX5 : String := "ArmtowerLine$Stretch"
def TX5 : u_T := fun k => match k with
  | 0 => ("ArmtowerLine$Stretch", "length", "I", true)
  | 1 => ("ArmtowerLine$Stretch", "heights", "[I", true)
  | 2 => ("ArmtowerLine$Stretch", "places", "[I", true)
  | 3 => ("ArmtowerLine$Stretch", "hills", "I", false)
  | _ => ("ArmtowerLine$Stretch", "weather", "I", false)
def tyX5 : Nat → FieldType := fun k => match k with
  | 0 => .int
  | 1 => .array .int
  | 2 => .array .int
  | 3 => .int
  | _ => .int
abbrev wsX50 : List Cond := u_ws RX5 TX5 5
theorem nmX5 : ∀ a, a < 5 → ∀ b, b < 5 → a ≠ b → (TX5 a).2.1 ≠ (TX5 b).2.1 := by decide +kernel
theorem tyX5_ok : ∀ k, k < 5 → parseFieldDescriptor (TX5 k).2.2.1 = some (tyX5 k) := by decide +kernel
abbrev cX5_init : ByteArray := prog_7_method_1_code
def yX5_init : MethodName := ⟨RX5, "<init>", "(I)V"⟩
abbrev cX5_layHill : ByteArray := prog_7_method_2_code
def yX5_layHill : MethodName := ⟨RX5, "layHill", "(II)Z"⟩
abbrev cX5_isClear : ByteArray := prog_7_method_3_code
def yX5_isClear : MethodName := ⟨RX5, "isClear", "(II)Z"⟩
def RX6 : String := "ArmtowerLine$Tape"
def TX6 : u_T := fun k => match k with
  | 0 => ("ArmtowerLine$Tape", "arrived", "[LArmtowerLine$Dispatch;", true)
  | 1 => ("ArmtowerLine$Tape", "arrivals", "I", false)
  | 2 => ("ArmtowerLine$Tape", "latest", "LArmtowerLine$Dispatch;", false)
  | 3 => ("ArmtowerLine$Tape", "begunCount", "I", false)
  | _ => ("ArmtowerLine$Tape", "urgentAhead", "Z", false)
def tyX6 : Nat → FieldType := fun k => match k with
  | 0 => .array (.object "ArmtowerLine$Dispatch")
  | 1 => .int
  | 2 => .object "ArmtowerLine$Dispatch"
  | 3 => .int
  | _ => .boolean
abbrev wsX60 : List Cond := u_ws RX6 TX6 5
theorem nmX6 : ∀ a, a < 5 → ∀ b, b < 5 → a ≠ b → (TX6 a).2.1 ≠ (TX6 b).2.1 := by decide +kernel
theorem tyX6_ok : ∀ k, k < 5 → parseFieldDescriptor (TX6 k).2.2.1 = some (tyX6 k) := by decide +kernel
abbrev cX6_init : ByteArray := prog_8_method_1_code
def yX6_init : MethodName := ⟨RX6, "<init>", "()V"⟩
abbrev cX6_putOn : ByteArray := prog_8_method_2_code
def yX6_putOn : MethodName := ⟨RX6, "putOn", "(II)V"⟩
abbrev cX6_begin : ByteArray := prog_8_method_3_code
def yX6_begin : MethodName := ⟨RX6, "begin", "(IZ)V"⟩
abbrev cX6_end : ByteArray := prog_8_method_4_code
def yX6_end : MethodName := ⟨RX6, "end", "(I)V"⟩
abbrev cX6_dropAll : ByteArray := prog_8_method_5_code
def yX6_dropAll : MethodName := ⟨RX6, "dropAll", "()V"⟩
def RX7 : String := "ArmtowerLine$Tower"
def TX7 : u_T := fun k => match k with
  | 0 => ("ArmtowerLine$Tower", "height", "I", true)
  | 1 => ("ArmtowerLine$Tower", "tiredness", "I", false)
  | 2 => ("ArmtowerLine$Tower", "up", "LArmtowerLine$Arm;", true)
  | _ => ("ArmtowerLine$Tower", "down", "LArmtowerLine$Arm;", true)
def tyX7 : Nat → FieldType := fun k => match k with
  | 0 => .int
  | 1 => .int
  | 2 => .object "ArmtowerLine$Arm"
  | _ => .object "ArmtowerLine$Arm"
abbrev wsX70 : List Cond := u_ws RX7 TX7 4
theorem nmX7 : ∀ a, a < 4 → ∀ b, b < 4 → a ≠ b → (TX7 a).2.1 ≠ (TX7 b).2.1 := by decide +kernel
theorem tyX7_ok : ∀ k, k < 4 → parseFieldDescriptor (TX7 k).2.2.1 = some (tyX7 k) := by decide +kernel
abbrev cX7_init : ByteArray := prog_9_method_1_code
def yX7_init : MethodName := ⟨RX7, "<init>", "(I)V"⟩
abbrev cX7_armFor : ByteArray := prog_9_method_2_code
def yX7_armFor : MethodName := ⟨RX7, "armFor", "(Z)LArmtowerLine$Arm;"⟩
def RX8 : String := "ArmtowerLine"
def TX8 : u_T := fun k => match k with
  | 0 => ("ArmtowerLine", "towerRow", "[LArmtowerLine$Tower;", true)
  | 1 => ("ArmtowerLine", "stretchRow", "[LArmtowerLine$Stretch;", true)
  | 2 => ("ArmtowerLine", "built", "I", false)
  | 3 => ("ArmtowerLine", "begun", "Z", false)
  | 4 => ("ArmtowerLine", "now", "I", false)
  | 5 => ("ArmtowerLine", "readingSeed", "I", false)
  | 6 => ("ArmtowerLine", "books", "[LArmtowerLine$Book;", true)
  | 7 => ("ArmtowerLine", "text", "[I", true)
  | 8 => ("ArmtowerLine", "typed", "I", false)
  | 9 => ("ArmtowerLine", "dispatchRow", "[I", true)
  | 10 => ("ArmtowerLine", "upTape", "LArmtowerLine$Tape;", true)
  | 11 => ("ArmtowerLine", "downTape", "LArmtowerLine$Tape;", true)
  | 12 => ("ArmtowerLine", "spies", "[LArmtowerLine$Spy;", true)
  | _ => ("ArmtowerLine", "spying", "I", false)
def tyX8 : Nat → FieldType := fun k => match k with
  | 0 => .array (.object "ArmtowerLine$Tower")
  | 1 => .array (.object "ArmtowerLine$Stretch")
  | 2 => .int
  | 3 => .boolean
  | 4 => .int
  | 5 => .int
  | 6 => .array (.object "ArmtowerLine$Book")
  | 7 => .array .int
  | 8 => .int
  | 9 => .array .int
  | 10 => .object "ArmtowerLine$Tape"
  | 11 => .object "ArmtowerLine$Tape"
  | 12 => .array (.object "ArmtowerLine$Spy")
  | _ => .int
abbrev wsX80 : List Cond := u_ws RX8 TX8 14
theorem nmX8 : ∀ a, a < 14 → ∀ b, b < 14 → a ≠ b → (TX8 a).2.1 ≠ (TX8 b).2.1 := by decide +kernel
theorem tyX8_ok : ∀ k, k < 14 → parseFieldDescriptor (TX8 k).2.2.1 = some (tyX8 k) := by decide +kernel
abbrev cX8_init : ByteArray := prog_1_method_1_code
def yX8_init : MethodName := ⟨RX8, "<init>", "()V"⟩
abbrev cX8_tower : ByteArray := prog_1_method_2_code
def yX8_tower : MethodName := ⟨RX8, "tower", "(II)I"⟩
abbrev cX8_hill : ByteArray := prog_1_method_3_code
def yX8_hill : MethodName := ⟨RX8, "hill", "(III)I"⟩
abbrev cX8_air : ByteArray := prog_1_method_4_code
def yX8_air : MethodName := ⟨RX8, "air", "(II)I"⟩
abbrev cX8_tire : ByteArray := prog_1_method_5_code
def yX8_tire : MethodName := ⟨RX8, "tire", "(II)I"⟩
abbrev cX8_seed : ByteArray := prog_1_method_6_code
def yX8_seed : MethodName := ⟨RX8, "seed", "(I)I"⟩
abbrev cX8_write : ByteArray := prog_1_method_7_code
def yX8_write : MethodName := ⟨RX8, "write", "(IIII)I"⟩
abbrev cX8_type : ByteArray := prog_1_method_8_code
def yX8_type : MethodName := ⟨RX8, "type", "(I)I"⟩
abbrev cX8_clear : ByteArray := prog_1_method_9_code
def yX8_clear : MethodName := ⟨RX8, "clear", "()I"⟩
abbrev cX8_send : ByteArray := prog_1_method_10_code
def yX8_send : MethodName := ⟨RX8, "send", "(ZIZ)I"⟩
abbrev cX8_mark : ByteArray := prog_1_method_11_code
def yX8_mark : MethodName := ⟨RX8, "mark", "(IZZ)I"⟩
abbrev cX8_spy : ByteArray := prog_1_method_12_code
def yX8_spy : MethodName := ⟨RX8, "spy", "(I)I"⟩
abbrev cX8_pass : ByteArray := prog_1_method_13_code
def yX8_pass : MethodName := ⟨RX8, "pass", "(I)I"⟩
abbrev cX8_minute : ByteArray := prog_1_method_14_code
def yX8_minute : MethodName := ⟨RX8, "minute", "()I"⟩
abbrev cX8_towers : ByteArray := prog_1_method_15_code
def yX8_towers : MethodName := ⟨RX8, "towers", "()I"⟩
abbrev cX8_sees : ByteArray := prog_1_method_16_code
def yX8_sees : MethodName := ⟨RX8, "sees", "(I)Z"⟩
abbrev cX8_shows : ByteArray := prog_1_method_17_code
def yX8_shows : MethodName := ⟨RX8, "shows", "(IZ)I"⟩
abbrev cX8_keeps : ByteArray := prog_1_method_18_code
def yX8_keeps : MethodName := ⟨RX8, "keeps", "(IZI)I"⟩
abbrev cX8_logs : ByteArray := prog_1_method_19_code
def yX8_logs : MethodName := ⟨RX8, "logs", "(IZ)I"⟩
abbrev cX8_log : ByteArray := prog_1_method_20_code
def yX8_log : MethodName := ⟨RX8, "log", "(IZII)I"⟩
abbrev cX8_differs : ByteArray := prog_1_method_21_code
def yX8_differs : MethodName := ⟨RX8, "differs", "(IIZ)I"⟩
abbrev cX8_came : ByteArray := prog_1_method_22_code
def yX8_came : MethodName := ⟨RX8, "came", "(Z)I"⟩
abbrev cX8_told : ByteArray := prog_1_method_23_code
def yX8_told : MethodName := ⟨RX8, "told", "(ZII)I"⟩
abbrev cX8_phrase : ByteArray := prog_1_method_24_code
def yX8_phrase : MethodName := ⟨RX8, "phrase", "(ZIII)I"⟩
abbrev cX8_open : ByteArray := prog_1_method_25_code
def yX8_open : MethodName := ⟨RX8, "open", "(Z)I"⟩
abbrev cX8_seen : ByteArray := prog_1_method_26_code
def yX8_seen : MethodName := ⟨RX8, "seen", "(I)I"⟩
abbrev cX8_tries : ByteArray := prog_1_method_27_code
def yX8_tries : MethodName := ⟨RX8, "tries", "(II)I"⟩
abbrev cX8_comes : ByteArray := prog_1_method_28_code
def yX8_comes : MethodName := ⟨RX8, "comes", "(I)I"⟩
abbrev cX8_comesAnew : ByteArray := prog_1_method_29_code
def yX8_comesAnew : MethodName := ⟨RX8, "comesAnew", "(I)I"⟩
abbrev cX8_isOutside : ByteArray := prog_1_method_30_code
def yX8_isOutside : MethodName := ⟨RX8, "isOutside", "(III)Z"⟩
abbrev cX8_spotOf : ByteArray := prog_1_method_31_code
def yX8_spotOf : MethodName := ⟨RX8, "spotOf", "(II)I"⟩
abbrev cX8_towerAt : ByteArray := prog_1_method_32_code
def yX8_towerAt : MethodName := ⟨RX8, "towerAt", "(I)LArmtowerLine$Tower;"⟩
abbrev cX8_stretchAt : ByteArray := prog_1_method_33_code
def yX8_stretchAt : MethodName := ⟨RX8, "stretchAt", "(I)LArmtowerLine$Stretch;"⟩
abbrev cX8_bookAt : ByteArray := prog_1_method_34_code
def yX8_bookAt : MethodName := ⟨RX8, "bookAt", "(I)LArmtowerLine$Book;"⟩
abbrev cX8_spyAt : ByteArray := prog_1_method_35_code
def yX8_spyAt : MethodName := ⟨RX8, "spyAt", "(I)LArmtowerLine$Spy;"⟩
abbrev cX8_dispatchAt : ByteArray := prog_1_method_36_code
def yX8_dispatchAt : MethodName := ⟨RX8, "dispatchAt", "(ZI)LArmtowerLine$Dispatch;"⟩
abbrev cX8_tapeOf : ByteArray := prog_1_method_37_code
def yX8_tapeOf : MethodName := ⟨RX8, "tapeOf", "(Z)LArmtowerLine$Tape;"⟩
abbrev cX8_isEnd : ByteArray := prog_1_method_38_code
def yX8_isEnd : MethodName := ⟨RX8, "isEnd", "(IZ)Z"⟩
abbrev cX8_isDay : ByteArray := prog_1_method_39_code
def yX8_isDay : MethodName := ⟨RX8, "isDay", "()Z"⟩
abbrev cX8_isSeenAlong : ByteArray := prog_1_method_40_code
def yX8_isSeenAlong : MethodName := ⟨RX8, "isSeenAlong", "(I)Z"⟩
abbrev cX8_layOut : ByteArray := prog_1_method_41_code
def yX8_layOut : MethodName := ⟨RX8, "layOut", "(LArmtowerLine$Book;Z)I"⟩
abbrev cX8_passOne : ByteArray := prog_1_method_42_code
def yX8_passOne : MethodName := ⟨RX8, "passOne", "()V"⟩
abbrev cX8_look : ByteArray := prog_1_method_43_code
def yX8_look : MethodName := ⟨RX8, "look", "(IZ)V"⟩
abbrev cX8_signAsRead : ByteArray := prog_1_method_44_code
def yX8_signAsRead : MethodName := ⟨RX8, "signAsRead", "(II)I"⟩
abbrev cX8_showNext : ByteArray := prog_1_method_45_code
def yX8_showNext : MethodName := ⟨RX8, "showNext", "(IZ)V"⟩
abbrev cX8_tellSpies : ByteArray := prog_1_method_46_code
def yX8_tellSpies : MethodName := ⟨RX8, "tellSpies", "(II)V"⟩
abbrev cX8_firstUnlike : ByteArray := prog_1_method_47_code
def yX8_firstUnlike : MethodName := ⟨RX8, "firstUnlike", "(LArmtowerLine$Log;LArmtowerLine$Log;)I"⟩
abbrev cX8_minutesOfTrial : ByteArray := prog_1_method_48_code
def yX8_minutesOfTrial : MethodName := ⟨RX8, "minutesOfTrial", "(II)I"⟩
abbrev cX8_passTrialMinute : ByteArray := prog_1_method_49_code
def yX8_passTrialMinute : MethodName := ⟨RX8, "passTrialMinute", "([I[ZI)V"⟩
def RX9 : String := "ArmtowerLineModel"
def TX9 : u_T := fun k => match k with
  | 0 => ("ArmtowerLineModel", "thrown", "I", false)
  | 1 => ("ArmtowerLineModel", "now", "I", false)
  | 2 => ("ArmtowerLineModel", "hasBegun", "Z", false)
  | 3 => ("ArmtowerLineModel", "towerMany", "I", false)
  | 4 => ("ArmtowerLineModel", "heights", "[I", true)
  | 5 => ("ArmtowerLineModel", "fars", "[I", true)
  | 6 => ("ArmtowerLineModel", "tired", "[I", true)
  | 7 => ("ArmtowerLineModel", "airs", "[I", true)
  | 8 => ("ArmtowerLineModel", "hillMany", "[I", true)
  | 9 => ("ArmtowerLineModel", "hillHeight", "[I", true)
  | 10 => ("ArmtowerLineModel", "hillPlace", "[I", true)
  | 11 => ("ArmtowerLineModel", "seedNow", "I", false)
  | 12 => ("ArmtowerLineModel", "keptMany", "[I", true)
  | 13 => ("ArmtowerLineModel", "urgentMany", "[I", true)
  | 14 => ("ArmtowerLineModel", "kept", "[I", true)
  | 15 => ("ArmtowerLineModel", "shown", "[I", true)
  | 16 => ("ArmtowerLineModel", "isTaken", "[Z", true)
  | 17 => ("ArmtowerLineModel", "logMany", "[I", true)
  | 18 => ("ArmtowerLineModel", "logMinute", "[I", true)
  | 19 => ("ArmtowerLineModel", "logSign", "[I", true)
  | 20 => ("ArmtowerLineModel", "logOwn", "[Z", true)
  | 21 => ("ArmtowerLineModel", "spotMany", "[I", true)
  | 22 => ("ArmtowerLineModel", "spots", "[I", true)
  | 23 => ("ArmtowerLineModel", "phrases", "[I", true)
  | 24 => ("ArmtowerLineModel", "textMany", "I", false)
  | 25 => ("ArmtowerLineModel", "text", "[I", true)
  | 26 => ("ArmtowerLineModel", "drafts", "[I", true)
  | 27 => ("ArmtowerLineModel", "wasUrgent", "[Z", true)
  | 28 => ("ArmtowerLineModel", "openMany", "[I", true)
  | 29 => ("ArmtowerLineModel", "openBegin", "[I", true)
  | 30 => ("ArmtowerLineModel", "openUrgent", "[Z", true)
  | 31 => ("ArmtowerLineModel", "openCount", "[I", true)
  | 32 => ("ArmtowerLineModel", "openSigns", "[I", true)
  | 33 => ("ArmtowerLineModel", "cameMany", "[I", true)
  | 34 => ("ArmtowerLineModel", "cameBegin", "[I", true)
  | 35 => ("ArmtowerLineModel", "cameEnd", "[I", true)
  | 36 => ("ArmtowerLineModel", "cameUrgent", "[Z", true)
  | 37 => ("ArmtowerLineModel", "cameCount", "[I", true)
  | 38 => ("ArmtowerLineModel", "cameSigns", "[I", true)
  | 39 => ("ArmtowerLineModel", "spyMany", "I", false)
  | 40 => ("ArmtowerLineModel", "spyAt", "[I", true)
  | 41 => ("ArmtowerLineModel", "seenMany", "[I", true)
  | _ => ("ArmtowerLineModel", "seenSigns", "[I", true)
def tyX9 : Nat → FieldType := fun k => match k with
  | 0 => .int
  | 1 => .int
  | 2 => .boolean
  | 3 => .int
  | 4 => .array .int
  | 5 => .array .int
  | 6 => .array .int
  | 7 => .array .int
  | 8 => .array .int
  | 9 => .array .int
  | 10 => .array .int
  | 11 => .int
  | 12 => .array .int
  | 13 => .array .int
  | 14 => .array .int
  | 15 => .array .int
  | 16 => .array .boolean
  | 17 => .array .int
  | 18 => .array .int
  | 19 => .array .int
  | 20 => .array .boolean
  | 21 => .array .int
  | 22 => .array .int
  | 23 => .array .int
  | 24 => .int
  | 25 => .array .int
  | 26 => .array .int
  | 27 => .array .boolean
  | 28 => .array .int
  | 29 => .array .int
  | 30 => .array .boolean
  | 31 => .array .int
  | 32 => .array .int
  | 33 => .array .int
  | 34 => .array .int
  | 35 => .array .int
  | 36 => .array .boolean
  | 37 => .array .int
  | 38 => .array .int
  | 39 => .int
  | 40 => .array .int
  | 41 => .array .int
  | _ => .array .int
abbrev wsX90 : List Cond := u_ws RX9 TX9 43
theorem nmX9 : ∀ a, a < 43 → ∀ b, b < 43 → a ≠ b → (TX9 a).2.1 ≠ (TX9 b).2.1 := by decide +kernel
theorem tyX9_ok : ∀ k, k < 43 → parseFieldDescriptor (TX9 k).2.2.1 = some (tyX9 k) := by decide +kernel
abbrev cX9_init : ByteArray := prog_11_method_1_code
def yX9_init : MethodName := ⟨RX9, "<init>", "()V"⟩
abbrev cX9_thrown : ByteArray := prog_11_method_2_code
def yX9_thrown : MethodName := ⟨RX9, "thrown", "()I"⟩
abbrev cX9_in : ByteArray := prog_11_method_3_code
def yX9_in : MethodName := ⟨RX9, "in", "(III)Z"⟩
abbrev cX9_isTower : ByteArray := prog_11_method_4_code
def yX9_isTower : MethodName := ⟨RX9, "isTower", "(I)Z"⟩
abbrev cX9_isStretch : ByteArray := prog_11_method_5_code
def yX9_isStretch : MethodName := ⟨RX9, "isStretch", "(I)Z"⟩
abbrev cX9_isBook : ByteArray := prog_11_method_6_code
def yX9_isBook : MethodName := ⟨RX9, "isBook", "(I)Z"⟩
abbrev cX9_at : ByteArray := prog_11_method_7_code
def yX9_at : MethodName := ⟨RX9, "at", "(IZ)I"⟩
abbrev cX9_isEnd : ByteArray := prog_11_method_8_code
def yX9_isEnd : MethodName := ⟨RX9, "isEnd", "(IZ)Z"⟩
abbrev cX9_tower : ByteArray := prog_11_method_9_code
def yX9_tower : MethodName := ⟨RX9, "tower", "(II)I"⟩
abbrev cX9_hill : ByteArray := prog_11_method_10_code
def yX9_hill : MethodName := ⟨RX9, "hill", "(III)I"⟩
abbrev cX9_air : ByteArray := prog_11_method_11_code
def yX9_air : MethodName := ⟨RX9, "air", "(II)I"⟩
abbrev cX9_tire : ByteArray := prog_11_method_12_code
def yX9_tire : MethodName := ⟨RX9, "tire", "(II)I"⟩
abbrev cX9_seed : ByteArray := prog_11_method_13_code
def yX9_seed : MethodName := ⟨RX9, "seed", "(I)I"⟩
abbrev cX9_isDay : ByteArray := prog_11_method_14_code
def yX9_isDay : MethodName := ⟨RX9, "isDay", "()Z"⟩
abbrev cX9_down : ByteArray := prog_11_method_15_code
def yX9_down : MethodName := ⟨RX9, "down", "(II)I"⟩
abbrev cX9_seesAlong : ByteArray := prog_11_method_16_code
def yX9_seesAlong : MethodName := ⟨RX9, "seesAlong", "(I)Z"⟩
abbrev cX9_spotOf : ByteArray := prog_11_method_17_code
def yX9_spotOf : MethodName := ⟨RX9, "spotOf", "(II)I"⟩
abbrev cX9_write : ByteArray := prog_11_method_18_code
def yX9_write : MethodName := ⟨RX9, "write", "(IIII)I"⟩
abbrev cX9_type : ByteArray := prog_11_method_19_code
def yX9_type : MethodName := ⟨RX9, "type", "(I)I"⟩
abbrev cX9_clear : ByteArray := prog_11_method_20_code
def yX9_clear : MethodName := ⟨RX9, "clear", "()I"⟩
abbrev cX9_lowestSpot : ByteArray := prog_11_method_21_code
def yX9_lowestSpot : MethodName := ⟨RX9, "lowestSpot", "(II)I"⟩
abbrev cX9_makesSigns : ByteArray := prog_11_method_22_code
def yX9_makesSigns : MethodName := ⟨RX9, "makesSigns", "(IZ)I"⟩
abbrev cX9_keepsAt : ByteArray := prog_11_method_23_code
def yX9_keepsAt : MethodName := ⟨RX9, "keepsAt", "(III)V"⟩
abbrev cX9_send : ByteArray := prog_11_method_24_code
def yX9_send : MethodName := ⟨RX9, "send", "(ZIZ)I"⟩
abbrev cX9_writes : ByteArray := prog_11_method_25_code
def yX9_writes : MethodName := ⟨RX9, "writes", "(IIZ)V"⟩
abbrev cX9_mark : ByteArray := prog_11_method_26_code
def yX9_mark : MethodName := ⟨RX9, "mark", "(IZZ)I"⟩
abbrev cX9_spy : ByteArray := prog_11_method_27_code
def yX9_spy : MethodName := ⟨RX9, "spy", "(I)I"⟩
abbrev cX9_opens : ByteArray := prog_11_method_28_code
def yX9_opens : MethodName := ⟨RX9, "opens", "(IZ)V"⟩
abbrev cX9_ends : ByteArray := prog_11_method_29_code
def yX9_ends : MethodName := ⟨RX9, "ends", "(I)V"⟩
abbrev cX9_tapes : ByteArray := prog_11_method_30_code
def yX9_tapes : MethodName := ⟨RX9, "tapes", "(II)V"⟩
abbrev cX9_reads : ByteArray := prog_11_method_31_code
def yX9_reads : MethodName := ⟨RX9, "reads", "(II)I"⟩
abbrev cX9_looks : ByteArray := prog_11_method_32_code
def yX9_looks : MethodName := ⟨RX9, "looks", "(IZ)V"⟩
abbrev cX9_spies : ByteArray := prog_11_method_33_code
def yX9_spies : MethodName := ⟨RX9, "spies", "(II)V"⟩
abbrev cX9_turnsTo : ByteArray := prog_11_method_34_code
def yX9_turnsTo : MethodName := ⟨RX9, "turnsTo", "(IZI)V"⟩
abbrev cX9_pass : ByteArray := prog_11_method_35_code
def yX9_pass : MethodName := ⟨RX9, "pass", "(I)I"⟩
abbrev cX9_minute : ByteArray := prog_11_method_36_code
def yX9_minute : MethodName := ⟨RX9, "minute", "()I"⟩
abbrev cX9_towers : ByteArray := prog_11_method_37_code
def yX9_towers : MethodName := ⟨RX9, "towers", "()I"⟩
abbrev cX9_sees : ByteArray := prog_11_method_38_code
def yX9_sees : MethodName := ⟨RX9, "sees", "(I)Z"⟩
abbrev cX9_shows : ByteArray := prog_11_method_39_code
def yX9_shows : MethodName := ⟨RX9, "shows", "(IZ)I"⟩
abbrev cX9_keeps : ByteArray := prog_11_method_40_code
def yX9_keeps : MethodName := ⟨RX9, "keeps", "(IZI)I"⟩
abbrev cX9_logs : ByteArray := prog_11_method_41_code
def yX9_logs : MethodName := ⟨RX9, "logs", "(IZ)I"⟩
abbrev cX9_log : ByteArray := prog_11_method_42_code
def yX9_log : MethodName := ⟨RX9, "log", "(IZII)I"⟩
abbrev cX9_nextRead : ByteArray := prog_11_method_43_code
def yX9_nextRead : MethodName := ⟨RX9, "nextRead", "(II)I"⟩
abbrev cX9_differs : ByteArray := prog_11_method_44_code
def yX9_differs : MethodName := ⟨RX9, "differs", "(IIZ)I"⟩
abbrev cX9_came : ByteArray := prog_11_method_45_code
def yX9_came : MethodName := ⟨RX9, "came", "(Z)I"⟩
abbrev cX9_told : ByteArray := prog_11_method_46_code
def yX9_told : MethodName := ⟨RX9, "told", "(ZII)I"⟩
abbrev cX9_phrase : ByteArray := prog_11_method_47_code
def yX9_phrase : MethodName := ⟨RX9, "phrase", "(ZIII)I"⟩
abbrev cX9_open : ByteArray := prog_11_method_48_code
def yX9_open : MethodName := ⟨RX9, "open", "(Z)I"⟩
abbrev cX9_seen : ByteArray := prog_11_method_49_code
def yX9_seen : MethodName := ⟨RX9, "seen", "(I)I"⟩
abbrev cX9_tries : ByteArray := prog_11_method_50_code
def yX9_tries : MethodName := ⟨RX9, "tries", "(II)I"⟩
abbrev cX9_comes : ByteArray := prog_11_method_51_code
def yX9_comes : MethodName := ⟨RX9, "comes", "(I)I"⟩
abbrev cX9_comesAnew : ByteArray := prog_11_method_52_code
def yX9_comesAnew : MethodName := ⟨RX9, "comesAnew", "(I)I"⟩
def RJ9 : String := "java/lang/Math"
def TJ9 : u_T := fun k => match k with
  | _ => ("", "", "", false)
def tyJ9 : Nat → FieldType := fun k => match k with
  | _ => .int
abbrev wsJ90 : List Cond := u_ws RJ9 TJ9 0
theorem nmJ9 : ∀ a, a < 0 → ∀ b, b < 0 → a ≠ b → (TJ9 a).2.1 ≠ (TJ9 b).2.1 := by decide +kernel
theorem tyJ9_ok : ∀ k, k < 0 → parseFieldDescriptor (TJ9 k).2.2.1 = some (tyJ9 k) := by decide +kernel
abbrev cJ9_min_7cf53 : ByteArray := prog_16_method_69_code
def yJ9_min_7cf53 : MethodName := ⟨RJ9, "min", "(II)I"⟩
def RJ0 : String := "java/lang/String"
def TJ0 : u_T := fun k => match k with
  | _ => ("", "", "", false)
def tyJ0 : Nat → FieldType := fun k => match k with
  | _ => .int
abbrev wsJ00 : List Cond := u_ws RJ0 TJ0 0
theorem nmJ0 : ∀ a, a < 0 → ∀ b, b < 0 → a ≠ b → (TJ0 a).2.1 ≠ (TJ0 b).2.1 := by decide +kernel
theorem tyJ0_ok : ∀ k, k < 0 → parseFieldDescriptor (TJ0 k).2.2.1 = some (tyJ0 k) := by decide +kernel
def RJ10 : String := "java/lang/System"
def TJ10 : u_T := fun k => match k with
  | _ => ("", "", "", false)
def tyJ10 : Nat → FieldType := fun k => match k with
  | _ => .int
abbrev wsJ100 : List Cond := u_ws RJ10 TJ10 0
theorem nmJ10 : ∀ a, a < 0 → ∀ b, b < 0 → a ≠ b → (TJ10 a).2.1 ≠ (TJ10 b).2.1 := by decide +kernel
theorem tyJ10_ok : ∀ k, k < 0 → parseFieldDescriptor (TJ10 k).2.2.1 = some (tyJ10 k) := by decide +kernel
def RL : String := "ArmtowerLineLaw"
abbrev cL_tower : ByteArray := method_3_code
def yL_tower : MethodName := ⟨RL, "tower", "(LArmtowerLine;II[J)I"⟩
abbrev cL_hill : ByteArray := method_4_code
def yL_hill : MethodName := ⟨RL, "hill", "(LArmtowerLine;III[J)I"⟩
abbrev cL_air : ByteArray := method_5_code
def yL_air : MethodName := ⟨RL, "air", "(LArmtowerLine;II[J)I"⟩
abbrev cL_tire : ByteArray := method_6_code
def yL_tire : MethodName := ⟨RL, "tire", "(LArmtowerLine;II[J)I"⟩
abbrev cL_seed : ByteArray := method_7_code
def yL_seed : MethodName := ⟨RL, "seed", "(LArmtowerLine;I[J)I"⟩
abbrev cL_write : ByteArray := method_8_code
def yL_write : MethodName := ⟨RL, "write", "(LArmtowerLine;IIII[J)I"⟩
abbrev cL_type : ByteArray := method_9_code
def yL_type : MethodName := ⟨RL, "type", "(LArmtowerLine;I[J)I"⟩
abbrev cL_send : ByteArray := method_10_code
def yL_send : MethodName := ⟨RL, "send", "(LArmtowerLine;ZIZ[J)I"⟩
abbrev cL_mark : ByteArray := method_11_code
def yL_mark : MethodName := ⟨RL, "mark", "(LArmtowerLine;IZZ[J)I"⟩
abbrev cL_spy : ByteArray := method_12_code
def yL_spy : MethodName := ⟨RL, "spy", "(LArmtowerLine;I[J)I"⟩
abbrev cL_pass : ByteArray := method_13_code
def yL_pass : MethodName := ⟨RL, "pass", "(LArmtowerLine;I[J)I"⟩
abbrev cL_sees : ByteArray := method_14_code
def yL_sees : MethodName := ⟨RL, "sees", "(LArmtowerLine;I[J)I"⟩
abbrev cL_shows : ByteArray := method_15_code
def yL_shows : MethodName := ⟨RL, "shows", "(LArmtowerLine;IZ[J)I"⟩
abbrev cL_keeps : ByteArray := method_16_code
def yL_keeps : MethodName := ⟨RL, "keeps", "(LArmtowerLine;IZI[J)I"⟩
abbrev cL_logs : ByteArray := method_17_code
def yL_logs : MethodName := ⟨RL, "logs", "(LArmtowerLine;IZ[J)I"⟩
abbrev cL_log : ByteArray := method_18_code
def yL_log : MethodName := ⟨RL, "log", "(LArmtowerLine;IZII[J)I"⟩
abbrev cL_differs : ByteArray := method_19_code
def yL_differs : MethodName := ⟨RL, "differs", "(LArmtowerLine;IIZ[J)I"⟩
abbrev cL_told : ByteArray := method_20_code
def yL_told : MethodName := ⟨RL, "told", "(LArmtowerLine;ZII[J)I"⟩
abbrev cL_phrase : ByteArray := method_21_code
def yL_phrase : MethodName := ⟨RL, "phrase", "(LArmtowerLine;ZIII[J)I"⟩
abbrev cL_seen : ByteArray := method_22_code
def yL_seen : MethodName := ⟨RL, "seen", "(LArmtowerLine;I[J)I"⟩
abbrev cL_tries : ByteArray := method_23_code
def yL_tries : MethodName := ⟨RL, "tries", "(LArmtowerLine;II[J)I"⟩
abbrev cL_comes : ByteArray := method_24_code
def yL_comes : MethodName := ⟨RL, "comes", "(LArmtowerLine;I[J)I"⟩
abbrev cL_comesAnew : ByteArray := method_25_code
def yL_comesAnew : MethodName := ⟨RL, "comesAnew", "(LArmtowerLine;I[J)I"⟩
abbrev cL_law : ByteArray := code
def yL_law : MethodName := ⟨RL, "law", "([I)Z"⟩
def wsX3_init : List Cond := .code yX3_init cX3_init 1 none :: ([.methodLink RX3 3 objectInit, .instanceMethod objectInit, .code objectInit ⟨#[0xb1]⟩ 1 none, .arrayClass .int, .fieldLink RX3 9 "ArmtowerLine$Log" "minutes" "[I", .fieldLink RX3 15 "ArmtowerLine$Log" "signs" "[I", .arrayClass .boolean, .fieldLink RX3 18 "ArmtowerLine$Log" "own" "[Z"] ++ wsX30)
abbrev vwCl : List vw_C := [(RX0, TX0, 5), (RX1, TX1, 3), (RX2, TX2, 6), (RX3, TX3, 4), (RX4, TX4, 3), (RX5, TX5, 5), (RX6, TX6, 5), (RX7, TX7, 4), (RX8, TX8, 14), (RX9, TX9, 43)]
end
section
/-! ABSTRACT MACHINE over the kit's W: ints are mathematical integers, objects have names (kind, number), the heap is a function of names -/
abbrev am_Nm : Type := Nat × Nat
abbrev am_AV : Type := Int ⊕ Int ⊕ Option am_Nm
abbrev am_I (x : Int) : am_AV := Sum.inl x
abbrev am_J (x : Int) : am_AV := Sum.inr (Sum.inl x)
abbrev am_R (n : am_Nm) : am_AV := Sum.inr (Sum.inr (some n))
abbrev am_N : am_AV := Sum.inr (Sum.inr none)
/-- an array (kind, length, elements) or an object (class, fields) -/
abbrev am_AC : Type := (Nat × Nat × (Nat → am_AV)) ⊕ (Nat × List am_AV)
abbrev am_A (kd len : Nat) (f : Nat → am_AV) : am_AC := Sum.inl (kd, len, f)
abbrev am_O (ci : Nat) (fs : List am_AV) : am_AC := Sum.inr (ci, fs)
abbrev am_AH : Type := am_Nm → Option am_AC
/-- the script's name -/
abbrev am_scr : am_Nm := (99, 0)
def am_up (h : am_AH) (n : am_Nm) (c : am_AC) : am_AH := fun x => if x = n then some c else h x
def am_uf (f : Nat → am_AV) (i : Nat) (v : am_AV) : Nat → am_AV := fun j => if j = i then v else f j
/-- launch, heap at the law's start, class ids, field slots, array class ids, script (address, length, ints) -/
abbrev am_G : Type := Launch × Heap × (Nat → ClassId) × (Nat → Nat → Nat) × (Nat → ClassId) × (Nat × Nat × (Nat → Int32))
/-- ..., entry naming -/
abbrev am_X : Type := Program × Env × Room × State × MethodId × Array Value × List Frame × Method × Code × (am_Nm → Option Nat)
/-- bytes, number of locals, own class, return type, a constructor?, handlers -/
abbrev am_Y : Type := ByteArray × Nat × String × Option FieldType × Bool × List (Nat × Nat × Nat × Nat)
def am_V (ι : am_Nm → Option Nat) (v : am_AV) (w : Value) : Prop := match v with
  | .inl x => w = .int (Int32.ofInt x)
  | .inr (.inl x) => w = .long (Int64.ofInt x)
  | .inr (.inr none) => w = .null
  | .inr (.inr (some n)) => ∃ a, ι n = some a ∧ w = .ref a
def am_T (ι : am_Nm → Option Nat) : List am_AV → List Value → Prop
  | [], [] => True
  | v :: vs, w :: ws => am_V ι v w ∧ am_T ι vs ws
  | _, _ => False
def am_le (ι κ : am_Nm → Option Nat) : Prop := ∀ n a, ι n = some a → κ n = some a
theorem am_le_rf {ι : am_Nm → Option Nat} : am_le ι ι := fun _ _ h => h
theorem am_le_tr {ι κ μ : am_Nm → Option Nat} (h : am_le ι κ) (g : am_le κ μ) : am_le ι μ := fun n a q => g n a (h n a q)
theorem am_V_le {ι κ : am_Nm → Option Nat} (h : am_le ι κ) {v : am_AV} {w : Value} (q : am_V ι v w) : am_V κ v w := by
  match v, q with
  | .inl x, q => exact q
  | .inr (.inl x), q => exact q
  | .inr (.inr none), q => exact q
  | .inr (.inr (some n)), q => obtain ⟨a, h1, h2⟩ := q; exact ⟨a, h n a h1, h2⟩
theorem am_T_le {ι κ : am_Nm → Option Nat} (h : am_le ι κ) : ∀ {vs : List am_AV} {ws : List Value}, am_T ι vs ws → am_T κ vs ws
  | [], [], _ => trivial
  | _ :: _, _ :: _, ⟨a, b⟩ => ⟨am_V_le h a, am_T_le h b⟩
  | [], _ :: _, q => q.elim
  | _ :: _, [], q => q.elim
/-- the array kinds: 0 int, 1 boolean, 2 long, 3.. references of a class -/
def am_ty : Nat → FieldType
  | 0 => .int
  | 1 => .boolean
  | 2 => .long
  | 3 => .object RX7
  | 4 => .object RX5
  | 5 => .object RX1
  | 6 => .object RX4
  | _ => .object RX2
def am_C (G : am_G) (ι : am_Nm → Option Nat) (c : am_AC) (a : Nat) (H : Heap) : Prop := match c with
  | .inl (kd, len, f) => ∃ w : Nat → Value, H[a]? = some (arrV (G.2.2.2.2.1 kd) len w) ∧ ∀ j, j < len → am_V ι (f j) (w j)
  | .inr (ci, fs) => ∃ (r : vw_C) (V : Nat → Value), vwCl[ci]? = some r ∧ t_OB a (G.2.2.1 ci) r.2.2 (G.2.2.2.1 ci) H V ∧ ∀ (j : Nat) (v : am_AV), fs[j]? = some v → am_V ι v (V j)
theorem am_C_le {G : am_G} {ι κ : am_Nm → Option Nat} (h : am_le ι κ) {c : am_AC} {a : Nat} {H H1 : Heap} (hk : H1[a]? = H[a]?) (q : am_C G ι c a H) : am_C G κ c a H1 := by
  match c, q with
  | .inl (kd, len, f), ⟨w, h1, h2⟩ => exact ⟨w, hk.trans h1, fun j hj => am_V_le h (h2 j hj)⟩
  | .inr (ci, fs), ⟨r, V, h1, h2, h3⟩ => exact ⟨r, V, h1, h2.kept hk, fun j v hj => am_V_le h (h3 j v hj)⟩
theorem am_C_lt {G : am_G} {ι : am_Nm → Option Nat} {c : am_AC} {a : Nat} {H : Heap} (q : am_C G ι c a H) : a < H.size := by
  match c, q with
  | .inl (kd, len, f), ⟨w, h1, _⟩ => exact (Array.getElem?_eq_some_iff.mp h1).1
  | .inr (ci, fs), ⟨r, V, _, ⟨ce9, h1, _⟩, _⟩ => exact (Array.getElem?_eq_some_iff.mp h1).1
/-- the real heap holds the abstract one, by the naming -/
def am_H (G : am_G) (ι : am_Nm → Option Nat) (h : am_AH) (H : Heap) : Prop :=
  (∀ n c, h n = some c → ∃ a, ι n = some a ∧ am_C G ι c a H) ∧
  (∀ n a, ι n = some a → (n = am_scr ∧ a = G.2.2.2.2.2.1) ∨ (n ≠ am_scr ∧ G.2.1.size ≤ a ∧ a < H.size ∧ h n ≠ none)) ∧
  (∀ n n' a, ι n = some a → ι n' = some a → n = n') ∧ h am_scr = none ∧ ι am_scr = some G.2.2.2.2.2.1
/-- what was there at the law's start is there -/
def am_old (G : am_G) (H : Heap) : Prop := G.2.1.size ≤ H.size ∧ ∀ q, q < G.2.1.size → H[q]? = G.2.1[q]?
theorem am_H_set {G : am_G} {ι : am_Nm → Option Nat} {h : am_AH} {H H1 : Heap} {n : am_Nm} {c c1 : am_AC} {a : Nat} (q : am_H G ι h H) (hn : h n = some c) (ha : ι n = some a) (hz : H1.size = H.size) (ho : ∀ b, b ≠ a → H1[b]? = H[b]?) (hc : am_C G ι c1 a H1) : am_H G ι (am_up h n c1) H1 := by
  obtain ⟨q1, q2, q3, q4, q5⟩ := q
  have hs : am_scr ≠ n := fun e => by rw [e] at q4; rw [q4] at hn; cases hn
  refine ⟨fun x cx hx => ?_, fun x ax hx => ?_, q3, ?_, q5⟩
  · by_cases e : x = n
    · subst e
      simp only [am_up, if_true] at hx
      cases hx
      exact ⟨a, ha, hc⟩
    · simp only [am_up, if_neg e] at hx
      obtain ⟨b, hb, hcb⟩ := q1 x cx hx
      exact ⟨b, hb, am_C_le am_le_rf (ho b fun z => e (q3 x n a (z ▸ hb) ha)) hcb⟩
  · rcases q2 x ax hx with z | ⟨z1, z2, z3, z4⟩
    · exact Or.inl z
    · refine Or.inr ⟨z1, z2, hz ▸ z3, ?_⟩
      by_cases e : x = n
      · simp [am_up, e]
      · simp only [am_up, if_neg e]; exact z4
  · simp only [am_up, if_neg hs]; exact q4
theorem am_H_new {G : am_G} {ι : am_Nm → Option Nat} {h : am_AH} {H H1 : Heap} {n : am_Nm} {c1 : am_AC} (q : am_H G ι h H) (hold : am_old G H) (hsb : G.2.2.2.2.2.1 < G.2.1.size) (hn : h n = none) (hs : n ≠ am_scr) (hz : H1.size = H.size + 1) (ho : ∀ b, b < H.size → H1[b]? = H[b]?) (hc : ∀ κ : am_Nm → Option Nat, am_le ι κ → κ n = some H.size → am_C G κ c1 H.size H1) :
    ∃ κ : am_Nm → Option Nat, am_le ι κ ∧ κ n = some H.size ∧ am_H G κ (am_up h n c1) H1 := by
  obtain ⟨q1, q2, q3, q4, q5⟩ := q
  have hin : ι n = none := by
    cases e : ι n with
    | none => rfl
    | some a =>
      rcases q2 n a e with ⟨z, -⟩ | ⟨-, -, -, z⟩
      · exact absurd z hs
      · exact absurd hn z
  have hle : am_le ι (fun x => if x = n then some H.size else ι x) := fun x a hx => by
    by_cases e : x = n
    · subst e; rw [hin] at hx; cases hx
    · simp only [if_neg e]; exact hx
  have hlt : ∀ x a, ι x = some a → a < H.size := fun x a hx => by
    rcases q2 x a hx with ⟨-, z⟩ | ⟨-, -, z, -⟩
    · rw [z]; exact Nat.lt_of_lt_of_le hsb hold.1
    · exact z
  refine ⟨fun x => if x = n then some H.size else ι x, hle, by simp, fun x cx hx => ?_, fun x ax hx => ?_, fun x y a hx hy => ?_, ?_, ?_⟩
  · by_cases e : x = n
    · subst e
      simp only [am_up, if_true] at hx
      cases hx
      exact ⟨H.size, by simp, hc _ hle (by simp)⟩
    · simp only [am_up, if_neg e] at hx
      obtain ⟨b, hb, hcb⟩ := q1 x cx hx
      exact ⟨b, hle x b hb, am_C_le hle (ho b (am_C_lt hcb)) hcb⟩
  · by_cases e : x = n
    · subst e
      simp only [if_true] at hx
      cases hx
      exact Or.inr ⟨hs, hold.1, by omega, by simp [am_up]⟩
    · simp only [if_neg e] at hx
      rcases q2 x ax hx with z | ⟨z1, z2, z3, z4⟩
      · exact Or.inl z
      · exact Or.inr ⟨z1, z2, by omega, by simp only [am_up, if_neg e]; exact z4⟩
  · by_cases e : x = n
    · by_cases e' : y = n
      · rw [e, e']
      · simp only [if_pos e, Option.some.injEq] at hx
        simp only [if_neg e'] at hy
        exact absurd (hlt y a hy) (by omega)
    · by_cases e' : y = n
      · simp only [if_neg e] at hx
        simp only [if_pos e', Option.some.injEq] at hy
        exact absurd (hlt x a hx) (by omega)
      · simp only [if_neg e] at hx
        simp only [if_neg e'] at hy
        exact q3 x y a hx hy
  · simp only [am_up, if_neg (Ne.symm hs)]; exact q4
  · simp only [if_neg (Ne.symm hs)]; exact q5
/-- all good words, of all methods -/
def am_uw : List Cond := lw_tbl.filter goodWord
theorem am_uw_good : ∀ w ∈ am_uw, goodWord w = true := fun _ h => (List.mem_filter.mp h).2
theorem am_uw_in : ∀ w ∈ am_uw, w ∈ lw_tbl := fun _ h => (List.mem_filter.mp h).1
/-- words that move with the machine, though not good ones -/
def am_mv : Cond → Bool
  | .fieldLinkNest .. => true
  | .methodLinkNest .. => true
  | .castable .. => true
  | _ => false
def am_tys (G : am_G) : List (ClassId × FieldType) := (List.range 8).map fun k => (G.2.2.2.2.1 k, am_ty k)
theorem am_tys_at (G : am_G) (k : Nat) (hk : k < 8) : (am_tys G)[k]? = some (G.2.2.2.2.1 k, am_ty k) := by
  simp [am_tys, hk]
def am_free (G : am_G) : Nat → Prop := fun q => G.2.1.size ≤ q
def am_ex : Nat → String
  | 0 => "java/lang/IndexOutOfBoundsException"
  | 1 => "java/lang/IllegalArgumentException"
  | _ => "java/lang/IllegalStateException"
/-- what holds of the machine at every method's entry -/
def am_K (G : am_G) (U : State) : Prop :=
  va_K (G.2.2.1, G.2.2.2.1) vwCl (am_tys G) U ∧
  (vx_Zq Bundle.tN "UNASSIGNED_STACK" Bundle.steD (am_free G) U G.2.1 ∧ vx_Zq Bundle.tN "SUPPRESSED_SENTINEL" Bundle.listD (am_free G) U G.2.1) ∧
  (∀ w ∈ lw_tbl, am_mv w = true → va_Nw w U) ∧ (∀ (k : Nat) (tx : String), Cond.stringRef RX8 k tx ∈ lw_tbl → ∃ a, vk_R RX8 k tx a U) ∧
  (∀ C : String, Cond.arrayOver (.object C) ∈ lw_tbl → va_AO C U) ∧ (∀ i j : Nat, i < 3 → j < 3 → i ≠ j → va_Nc (am_ex i) (am_ex j) U) ∧
  va_X G.2.2.2.2.2.1 G.2.2.2.2.2.2.1 G.2.2.2.2.2.2.2 U G.2.1 ∧ G.2.2.2.2.2.1 < G.2.1.size ∧ G.1.stackTraces = false
theorem am_X_moved {b L : Nat} {xs : Nat → Int32} {u U : State} {H : Heap} (hvm : u.vm.Alike U.vm) (h : va_X b L xs u H) : va_X b L xs U H := by
  obtain ⟨scr, h1, h2, h3⟩ := h
  exact ⟨scr, h1, State.isArrayOf_alike hvm h2, h3⟩
theorem am_K_warm {G : am_G} {s U : State} (hW : s.WarmedH U.vm) (h : am_K G s) : am_K G U := by
  obtain ⟨h1, ⟨h2, h3⟩, h4, h5, h6, h7, h8, h9⟩ := h
  refine ⟨va_K.moved hW.alike h1, ⟨vx_Zq.moved hW.alike h2, vx_Zq.moved hW.alike h3⟩, fun w hw hm => ?_, fun k tx hk => ?_, fun C hC => (h6 C hC).moved hW.alike, fun i j hi hj hn => (h7 i j hi hj hn).moved hW.alike, am_X_moved hW.alike h8, h9⟩
  · have hz := h4 w hw hm
    cases w <;> first | (exact va_Nw.warmF hW hz) | (exact va_Nw.warmM hW hz) | (exact va_Nw.warmC hW hz) | (exact absurd hm (by simp [am_mv]))
  · obtain ⟨a, ha⟩ := h5 k tx hk
    exact ⟨a, vk_R.warm hW ha⟩
theorem am_K_same {G : am_G} {s U : State} (hv : s.vm = U.vm) (h : am_K G s) : am_K G U := by
  obtain ⟨h1, ⟨h2, h3⟩, h4, h5, h6, h7, h8, h9⟩ := h
  have hA : s.vm.Alike U.vm := hv ▸ Vm.Alike.refl s.vm
  refine ⟨va_K.moved hA h1, ⟨vx_Zq.moved hA h2, vx_Zq.moved hA h3⟩, fun w hw hm => ?_, fun k tx hk => ?_, fun C hC => (h6 C hC).moved hA, fun i j hi hj hn => (h7 i j hi hj hn).moved hA, am_X_moved hA h8, h9⟩
  · have hz := h4 w hw hm
    cases w <;> first | (exact va_Nw.same rfl hv hz) | (exact absurd hm (by simp [am_mv]))
  · obtain ⟨a, ha⟩ := h5 k tx hk
    exact ⟨a, vk_R.same hv.symm ha⟩
def am_rm (d mc ms : Nat) : Room := { frames := d, cells := mc, slots := ms, locals := 36 * d }
/-- what holds through a method's body: the machine, the code, the words, the entry's heap -/
def am_ok (G : am_G) (X : am_X) (Y : am_Y) (d mc ms : Nat) : Prop := match X with
  | (p, e, R, s, m, args, below, meth, c, ι0) => p.tables.exec = Jvm.exec ∧ c.code = Y.1 ∧ c.maxLocals = Y.2.1 ∧ s.vm.findClass Y.2.2.1 = some m.cls ∧ (∀ w ∈ am_uw, w.before args s = true) ∧ meth.locks = false ∧ meth.sig.returnType = Y.2.2.2.1 ∧ (Y.2.2.2.2.1 = true → meth.name = "<init>") ∧ c.exceptionTable.toList = tableOf Y.2.2.2.2.2 ∧ R.frames = d ∧ R.locals ≥ 36 * d ∧ R.cells = mc ∧ R.slots = ms ∧ am_old G s.heap ∧ am_K G s
def am_Rel (G : am_G) (X : am_X) (ι : am_Nm → Option Nat) (h : am_AH) (H : Heap) (lc : List Loc) : Prop := match X with
  | (_, _, _, s, _, _, _, _, _, ι0) => am_H G ι h H ∧ am_old G H ∧ s.heap.size ≤ H.size ∧ (∀ z ∈ lc, am_free G z.base) ∧ am_le ι0 ι
/-- locals: what is listed is held, and no long is among them -/
def am_L (nL : Nat) (ι : am_Nm → Option Nat) (ls : List (Option am_AV)) (lr : Array Slot) : Prop :=
  lr.size = nL ∧ lv_wf lr ∧ ls.length = nL ∧ ∀ (i : Nat) (v : am_AV), ls[i]? = some (some v) → ∃ w, lr[i]? = some (.val w) ∧ am_V ι v w ∧ w.category = 1
theorem am_L_le {nL : Nat} {ι κ : am_Nm → Option Nat} (h : am_le ι κ) {ls : List (Option am_AV)} {lr : Array Slot} (q : am_L nL ι ls lr) : am_L nL κ ls lr :=
  ⟨q.1, q.2.1, q.2.2.1, fun i v hi => by obtain ⟨w, h1, h2, h3⟩ := q.2.2.2 i v hi; exact ⟨w, h1, am_V_le h h2, h3⟩⟩
/-- the walk of a body, from a place on -/
def am_W (G : am_G) (X : am_X) (Y : am_Y) (d mc ms : Nat) (Q : State → Prop) (pc : Nat) (ls : List (Option am_AV)) (st : List am_AV) (h : am_AH) (k n : Nat) : Prop := match X with
  | (p, e, R, s, m, args, below, meth, c, ι0) => am_ok G (p, e, R, s, m, args, below, meth, c, ι0) Y d mc ms → ∀ (ι : am_Nm → Option Nat) (H : Heap) (lr : Array Slot) (sr : List Value) (lc : List Loc), am_Rel G (p, e, R, s, m, args, below, meth, c, ι0) ι h H lc → am_L Y.2.1 ι ls lr → am_T ι st sr → W p G.1 e R s m args below meth c H lc k n Q (F0 m pc lr sr)
/-- decoding: an instruction, its length, the next place; a branch with its target -/
def am_d (cc : ByteArray) (pc : Nat) (i : Instr) (len q : Nat) : Prop := decode cc pc = .ok (i, len) ∧ q = pc + len
def am_b (cc : ByteArray) (pc : Nat) (i : Instr) (off : Int) (q t : Nat) : Prop := decode cc pc = .ok (i, 3) ∧ q = pc + 3 ∧ (pc : Int) + off = (t : Int)
def am_r (a : Int) : Prop := -2147483648 ≤ a ∧ a < 2147483648
theorem am_toInt {a : Int} (h : am_r a) : (Int32.ofInt a).toInt = a := Int32.toInt_ofInt_of_le (by have := h.1; omega) (by have := h.2; omega)
theorem am_lt {a b : Int} (ha : am_r a) (hb : am_r b) : Int32.ofInt a < Int32.ofInt b ↔ a < b := by rw [Int32.lt_iff_toInt_lt, am_toInt ha, am_toInt hb]
theorem am_lef {a b : Int} (ha : am_r a) (hb : am_r b) : Int32.ofInt a ≤ Int32.ofInt b ↔ a ≤ b := by rw [Int32.le_iff_toInt_le, am_toInt ha, am_toInt hb]
theorem am_eq {a b : Int} (ha : am_r a) (hb : am_r b) : Int32.ofInt a = Int32.ofInt b ↔ a = b := by rw [← Int32.toInt_inj, am_toInt ha, am_toInt hb]
theorem am_r0 : am_r 0 := ⟨by decide, by decide⟩
theorem am_z : (0 : Int32) = Int32.ofInt 0 := by decide
theorem am_idx {i : Int} (h0 : 0 ≤ i) {n : Nat} (h1 : i < n) (hn : n < 2147483648) : ¬ (Int32.ofInt i < 0 ∨ n ≤ (Int32.ofInt i).toNatClampNeg) ∧ (Int32.ofInt i).toNatClampNeg = i.toNat := by
  have hr : am_r i := ⟨by omega, by omega⟩
  have ht := am_toInt hr
  have hc : (Int32.ofInt i).toNatClampNeg = i.toNat := by show (Int32.ofInt i).toInt.toNat = i.toNat; rw [ht]
  refine ⟨?_, hc⟩
  rw [am_z, am_lt hr am_r0, hc]
  omega
end
section
section AmPure
variable {G : am_G} {X : am_X} {Y : am_Y} {d mc ms : Nat} {Q : State → Prop} {pc q t : Nat} {ls : List (Option am_AV)} {st : List am_AV} {h : am_AH} {k n : Nat}
theorem am_T_1 {ι : am_Nm → Option Nat} {v : am_AV} {vs : List am_AV} {sr : List Value} (ht : am_T ι (v :: vs) sr) : ∃ w ws, sr = w :: ws ∧ am_V ι v w ∧ am_T ι vs ws := by
  match sr, ht with
  | w :: ws, ⟨a, b⟩ => exact ⟨w, ws, rfl, a, b⟩
theorem am_heq {h' : am_AH} (e : h = h') (kk : am_W G X Y d mc ms Q pc ls st h' k n) : am_W G X Y d mc ms Q pc ls st h k n := e ▸ kk
theorem am_steq {st' : List am_AV} (e : st = st') (kk : am_W G X Y d mc ms Q pc ls st' h k n) : am_W G X Y d mc ms Q pc ls st h k n := e ▸ kk
theorem am_lseq {ls' : List (Option am_AV)} (e : ls = ls') (kk : am_W G X Y d mc ms Q pc ls' st h k n) : am_W G X Y d mc ms Q pc ls st h k n := e ▸ kk
/-- fewer locals known -/
theorem am_lless {ls' : List (Option am_AV)} (hz : ls'.length = ls.length) (e : ∀ (i : Nat) (v : am_AV), ls'[i]? = some (some v) → ls[i]? = some (some v)) (kk : am_W G X Y d mc ms Q pc ls' st h k n) : am_W G X Y d mc ms Q pc ls st h k n := by
  obtain ⟨p, e9, R, s, m, args, below, meth, c, ι0⟩ := X
  intro ok ι H lr sr lc hr hl ht
  exact kk ok ι H lr sr lc hr ⟨hl.1, hl.2.1, hz.trans hl.2.2.1, fun i v hi => hl.2.2.2 i v (e i v hi)⟩ ht
theorem am_widen {k' n' : Nat} (h1 : k ≤ k') (h2 : n ≤ n') (kk : am_W G X Y d mc ms Q pc ls st h k' n') : am_W G X Y d mc ms Q pc ls st h k n := by
  obtain ⟨p, e, R, s, m, args, below, meth, c, ι0⟩ := X
  intro ok ι H lr sr lc hr hl ht
  exact W.widen h1 h2 (kk ok ι H lr sr lc hr hl ht)
theorem am_iconst {x : Int} (hd : am_d Y.1 pc (.iconst x) 1 q) (kk : am_W G X Y d mc ms Q q ls (am_I x :: st) h k n) : am_W G X Y d mc ms Q pc ls st h k n := by
  obtain ⟨p, e, R, s, m, args, below, meth, c, ι0⟩ := X
  obtain ⟨hd, rfl⟩ := hd
  intro ok ι H lr sr lc hr hl ht
  exact lv_iconst ok.1 ok.2.1 hd rfl (kk ok ι H lr _ lc hr hl ⟨rfl, ht⟩)
theorem am_bipush {x : Int} (hd : am_d Y.1 pc (.bipush x) 2 q) (hx : (Int8.ofInt x).toInt32 = Int32.ofInt x) (kk : am_W G X Y d mc ms Q q ls (am_I x :: st) h k n) : am_W G X Y d mc ms Q pc ls st h k n := by
  obtain ⟨p, e, R, s, m, args, below, meth, c, ι0⟩ := X
  obtain ⟨hd, rfl⟩ := hd
  intro ok ι H lr sr lc hr hl ht
  exact lv_bipush ok.1 ok.2.1 hd hx (kk ok ι H lr _ lc hr hl ⟨rfl, ht⟩)
theorem am_sipush {x : Int} (hd : am_d Y.1 pc (.sipush x) 3 q) (hx : (Int16.ofInt x).toInt32 = Int32.ofInt x) (kk : am_W G X Y d mc ms Q q ls (am_I x :: st) h k n) : am_W G X Y d mc ms Q pc ls st h k n := by
  obtain ⟨p, e, R, s, m, args, below, meth, c, ι0⟩ := X
  obtain ⟨hd, rfl⟩ := hd
  intro ok ι H lr sr lc hr hl ht
  exact lv_sipush ok.1 ok.2.1 hd hx (kk ok ι H lr _ lc hr hl ⟨rfl, ht⟩)
theorem am_lconst {x : Fin 2} (hd : am_d Y.1 pc (.lconst x) 1 q) (kk : am_W G X Y d mc ms Q q ls (am_J (x : Nat) :: st) h k n) : am_W G X Y d mc ms Q pc ls st h k n := by
  obtain ⟨p, e, R, s, m, args, below, meth, c, ι0⟩ := X
  obtain ⟨hd, rfl⟩ := hd
  intro ok ι H lr sr lc hr hl ht
  exact lv_lconst ok.1 ok.2.1 hd rfl (kk ok ι H lr _ lc hr hl ⟨by simp [am_V, Int64.ofInt_eq_ofNat], ht⟩)
theorem am_null (hd : am_d Y.1 pc .aconst_null 1 q) (kk : am_W G X Y d mc ms Q q ls (am_N :: st) h k n) : am_W G X Y d mc ms Q pc ls st h k n := by
  obtain ⟨p, e, R, s, m, args, below, meth, c, ι0⟩ := X
  obtain ⟨hd, rfl⟩ := hd
  intro ok ι H lr sr lc hr hl ht
  exact lv_null ok.1 ok.2.1 hd (kk ok ι H lr _ lc hr hl ⟨rfl, ht⟩)
theorem am_ldc {idx : Nat} {x : Int32} (hd : am_d Y.1 pc (.ldc idx) 2 q) (hc : Cond.constant Y.2.2.1 idx x ∈ am_uw) (kk : am_W G X Y d mc ms Q q ls (am_I x.toInt :: st) h k n) : am_W G X Y d mc ms Q pc ls st h k n := by
  obtain ⟨p, e, R, s, m, args, below, meth, c, ι0⟩ := X
  obtain ⟨hd, rfl⟩ := hd
  intro ok ι H lr sr lc hr hl ht
  have hown := ok.2.2.2.1
  have hts := ok.2.2.2.2.1
  exact lv_ldc ok.1 ok.2.1 hown (hts _ hc) hd (kk ok ι H lr _ lc hr hl ⟨by simp [am_V], ht⟩)
theorem am_iload_n {i : Fin 4} {x : Int} (hd : am_d Y.1 pc (.iload_n i) 1 q) (hx : ls[(i : Nat)]? = some (some (am_I x))) (kk : am_W G X Y d mc ms Q q ls (am_I x :: st) h k n) : am_W G X Y d mc ms Q pc ls st h k n := by
  obtain ⟨p, e, R, s, m, args, below, meth, c, ι0⟩ := X
  obtain ⟨hd, rfl⟩ := hd
  intro ok ι H lr sr lc hr hl ht
  obtain ⟨w, h1, h2, h3⟩ := hl.2.2.2 _ _ hx
  cases h2
  exact lv_iload_n ok.1 ok.2.1 hd rfl h1 (kk ok ι H lr _ lc hr hl ⟨rfl, ht⟩)
theorem am_iload {i : Nat} {x : Int} (hd : am_d Y.1 pc (.iload i) 2 q) (hx : ls[i]? = some (some (am_I x))) (kk : am_W G X Y d mc ms Q q ls (am_I x :: st) h k n) : am_W G X Y d mc ms Q pc ls st h k n := by
  obtain ⟨p, e, R, s, m, args, below, meth, c, ι0⟩ := X
  obtain ⟨hd, rfl⟩ := hd
  intro ok ι H lr sr lc hr hl ht
  obtain ⟨w, h1, h2, h3⟩ := hl.2.2.2 _ _ hx
  cases h2
  exact lv_iload ok.1 ok.2.1 hd h1 (kk ok ι H lr _ lc hr hl ⟨rfl, ht⟩)
theorem am_aload_n {i : Fin 4} {x : Option am_Nm} (hd : am_d Y.1 pc (.aload_n i) 1 q) (hx : ls[(i : Nat)]? = some (some (Sum.inr (Sum.inr x)))) (kk : am_W G X Y d mc ms Q q ls (Sum.inr (Sum.inr x) :: st) h k n) : am_W G X Y d mc ms Q pc ls st h k n := by
  obtain ⟨p, e, R, s, m, args, below, meth, c, ι0⟩ := X
  obtain ⟨hd, rfl⟩ := hd
  intro ok ι H lr sr lc hr hl ht
  obtain ⟨w, h1, h2, h3⟩ := hl.2.2.2 _ _ hx
  cases x with
  | none =>
    cases h2
    exact lv_aload_nN ok.1 ok.2.1 hd rfl h1 (kk ok ι H lr _ lc hr hl ⟨rfl, ht⟩)
  | some y =>
    obtain ⟨a, h4, h5⟩ := h2
    subst h5
    exact lv_aload_n ok.1 ok.2.1 hd rfl h1 (kk ok ι H lr _ lc hr hl ⟨⟨a, h4, rfl⟩, ht⟩)
theorem am_aload {i : Nat} {x : Option am_Nm} (hd : am_d Y.1 pc (.aload i) 2 q) (hx : ls[i]? = some (some (Sum.inr (Sum.inr x)))) (kk : am_W G X Y d mc ms Q q ls (Sum.inr (Sum.inr x) :: st) h k n) : am_W G X Y d mc ms Q pc ls st h k n := by
  obtain ⟨p, e, R, s, m, args, below, meth, c, ι0⟩ := X
  obtain ⟨hd, rfl⟩ := hd
  intro ok ι H lr sr lc hr hl ht
  obtain ⟨w, h1, h2, h3⟩ := hl.2.2.2 _ _ hx
  cases x with
  | none =>
    cases h2
    exact lv_aloadN ok.1 ok.2.1 hd h1 (kk ok ι H lr _ lc hr hl ⟨rfl, ht⟩)
  | some y =>
    obtain ⟨a, h4, h5⟩ := h2
    subst h5
    exact lv_aload ok.1 ok.2.1 hd h1 (kk ok ι H lr _ lc hr hl ⟨⟨a, h4, rfl⟩, ht⟩)
/-- all listed values of one slot -/
def am_lv (lr : Array Slot) : List (Nat × Value) := (List.range lr.size).filterMap fun i => match lr[i]? with
  | some (Slot.val w) => if w.category = 1 then some (i, w) else none
  | _ => none
theorem am_lv_in {lr : Array Slot} {i : Nat} {w : Value} (h1 : lr[i]? = some (.val w)) (h2 : w.category = 1) : (i, w) ∈ am_lv lr := by
  have hi : i < lr.size := (Array.getElem?_eq_some_iff.mp h1).1
  refine List.mem_filterMap.mpr ⟨i, List.mem_range.mpr hi, ?_⟩
  simp only [h1, h2, if_true]
theorem am_lv_has {nL : Nat} {ι : am_Nm → Option Nat} {lr : Array Slot} (hl : am_L nL ι ls lr) : lv_has lr nL (am_lv lr) := by
  refine ⟨hl.1, hl.2.1, fun x hx => ?_⟩
  obtain ⟨i, -, hi⟩ := List.mem_filterMap.mp hx
  split at hi
  · rename_i w hw
    split at hi
    · cases hi; exact hw
    · cases hi
  · cases hi
theorem am_L_set {nL : Nat} {ι : am_Nm → Option Nat} {lr lr' : Array Slot} (hl : am_L nL ι ls lr) {i : Nat} {v : am_AV} {w : Value} (hv : am_V ι v w) (hc : w.category = 1) (hi : i < nL) (h2 : lv_has lr' nL ((i, w) :: (am_lv lr).filter (fun q => !(q.1 == i) && !(q.1 + 1 == i && q.2.category == 2)))) : am_L nL ι (ls.set i (some v)) lr' := by
  refine ⟨h2.1, h2.2.1, by rw [List.length_set]; exact hl.2.2.1, fun j u hu => ?_⟩
  by_cases e : j = i
  · subst e
    rw [List.getElem?_set_self (by rw [hl.2.2.1]; exact hi)] at hu
    cases hu
    exact ⟨w, h2.2.2 (j, w) List.mem_cons_self, hv, hc⟩
  · rw [List.getElem?_set_ne (Ne.symm e)] at hu
    obtain ⟨w', h3, h4, h5⟩ := hl.2.2.2 j u hu
    refine ⟨w', h2.2.2 (j, w') (List.mem_cons_of_mem _ (List.mem_filter.mpr ⟨am_lv_in h3 h5, ?_⟩)), h4, h5⟩
    simp [e, h5]
theorem am_istore_n {i : Fin 4} {x : Int} (hd : am_d Y.1 pc (.istore_n i) 1 q) (hi : (i : Nat) < Y.2.1) (kk : am_W G X Y d mc ms Q q (ls.set i (some (am_I x))) st h k n) : am_W G X Y d mc ms Q pc ls (am_I x :: st) h k n := by
  obtain ⟨p, e, R, s, m, args, below, meth, c, ι0⟩ := X
  obtain ⟨hd, rfl⟩ := hd
  intro ok ι H lr sr lc hr hl ht
  obtain ⟨w, sr, rfl, h1, ht1⟩ := am_T_1 ht
  cases h1
  exact lv_istore_n ok.1 ok.2.1 hd rfl (am_lv_has hl) hi rfl fun lr' hl' => kk ok ι H lr' sr lc hr (am_L_set hl rfl rfl hi hl') ht1
theorem am_istore {i : Nat} {x : Int} (hd : am_d Y.1 pc (.istore i) 2 q) (hi : i < Y.2.1) (kk : am_W G X Y d mc ms Q q (ls.set i (some (am_I x))) st h k n) : am_W G X Y d mc ms Q pc ls (am_I x :: st) h k n := by
  obtain ⟨p, e, R, s, m, args, below, meth, c, ι0⟩ := X
  obtain ⟨hd, rfl⟩ := hd
  intro ok ι H lr sr lc hr hl ht
  obtain ⟨w, sr, rfl, h1, ht1⟩ := am_T_1 ht
  cases h1
  exact lv_istore ok.1 ok.2.1 hd (am_lv_has hl) hi rfl fun lr' hl' => kk ok ι H lr' sr lc hr (am_L_set hl rfl rfl hi hl') ht1
theorem am_astore_n {i : Fin 4} {x : Option am_Nm} (hd : am_d Y.1 pc (.astore_n i) 1 q) (hi : (i : Nat) < Y.2.1) (kk : am_W G X Y d mc ms Q q (ls.set i (some (Sum.inr (Sum.inr x)))) st h k n) : am_W G X Y d mc ms Q pc ls (Sum.inr (Sum.inr x) :: st) h k n := by
  obtain ⟨p, e, R, s, m, args, below, meth, c, ι0⟩ := X
  obtain ⟨hd, rfl⟩ := hd
  intro ok ι H lr sr lc hr hl ht
  obtain ⟨w, sr, rfl, h1, ht1⟩ := am_T_1 ht
  cases x with
  | none =>
    cases h1
    exact lv_astore_nN ok.1 ok.2.1 hd rfl (am_lv_has hl) hi rfl fun lr' hl' => kk ok ι H lr' sr lc hr (am_L_set hl rfl rfl hi hl') ht1
  | some y =>
    obtain ⟨a, h4, h5⟩ := h1
    subst h5
    exact lv_astore_n ok.1 ok.2.1 hd rfl (am_lv_has hl) hi rfl fun lr' hl' => kk ok ι H lr' sr lc hr (am_L_set hl ⟨a, h4, rfl⟩ rfl hi hl') ht1
theorem am_astore {i : Nat} {x : Option am_Nm} (hd : am_d Y.1 pc (.astore i) 2 q) (hi : i < Y.2.1) (kk : am_W G X Y d mc ms Q q (ls.set i (some (Sum.inr (Sum.inr x)))) st h k n) : am_W G X Y d mc ms Q pc ls (Sum.inr (Sum.inr x) :: st) h k n := by
  obtain ⟨p, e, R, s, m, args, below, meth, c, ι0⟩ := X
  obtain ⟨hd, rfl⟩ := hd
  intro ok ι H lr sr lc hr hl ht
  obtain ⟨w, sr, rfl, h1, ht1⟩ := am_T_1 ht
  cases x with
  | none =>
    cases h1
    exact lv_astoreN ok.1 ok.2.1 hd (am_lv_has hl) hi rfl fun lr' hl' => kk ok ι H lr' sr lc hr (am_L_set hl rfl rfl hi hl') ht1
  | some y =>
    obtain ⟨a, h4, h5⟩ := h1
    subst h5
    exact lv_astore ok.1 ok.2.1 hd (am_lv_has hl) hi rfl fun lr' hl' => kk ok ι H lr' sr lc hr (am_L_set hl ⟨a, h4, rfl⟩ rfl hi hl') ht1
theorem am_iinc {i : Nat} {z x : Int} (hd : am_d Y.1 pc (.iinc i z) 3 q) (hx : ls[i]? = some (some (am_I x))) (hi : i < Y.2.1) (kk : am_W G X Y d mc ms Q q (ls.set i (some (am_I (x + z)))) st h k n) : am_W G X Y d mc ms Q pc ls st h k n := by
  obtain ⟨p, e, R, s, m, args, below, meth, c, ι0⟩ := X
  obtain ⟨hd, rfl⟩ := hd
  intro ok ι H lr sr lc hr hl ht
  obtain ⟨w, h1, h2, h3⟩ := hl.2.2.2 _ _ hx
  cases h2
  obtain ⟨j, hj⟩ := List.getElem?_of_mem (am_lv_in h1 h3)
  exact lv_iinc ok.1 ok.2.1 hd (am_lv_has hl) hj (by rw [← Int32.ofInt_add]) hi rfl fun lr' hl' => kk ok ι H lr' sr lc hr (am_L_set hl rfl rfl hi hl') ht
theorem am_dup {v : am_AV} (hv : v.isLeft ∨ ∃ x, v = Sum.inr (Sum.inr x)) (hd : am_d Y.1 pc .dup 1 q) (kk : am_W G X Y d mc ms Q q ls (v :: v :: st) h k n) : am_W G X Y d mc ms Q pc ls (v :: st) h k n := by
  obtain ⟨p, e, R, s, m, args, below, meth, c, ι0⟩ := X
  obtain ⟨hd, rfl⟩ := hd
  intro ok ι H lr sr lc hr hl ht
  obtain ⟨w, sr, rfl, h1, ht1⟩ := am_T_1 ht
  have hc : w.category = 1 := by
    match v, hv, h1 with
    | .inl x, _, h1 => cases h1; rfl
    | .inr (.inr none), _, h1 => cases h1; rfl
    | .inr (.inr (some y)), _, h1 => obtain ⟨a, -, rfl⟩ := h1; rfl
    | .inr (.inl x), hv, _ => exact absurd hv (by simp)
  exact lv_dup ok.1 ok.2.1 hd hc (kk ok ι H lr _ lc hr hl ⟨h1, h1, ht1⟩)
theorem am_pop {v : am_AV} (hv : v.isLeft ∨ ∃ x, v = Sum.inr (Sum.inr x)) (hd : am_d Y.1 pc .pop 1 q) (kk : am_W G X Y d mc ms Q q ls st h k n) : am_W G X Y d mc ms Q pc ls (v :: st) h k n := by
  obtain ⟨p, e, R, s, m, args, below, meth, c, ι0⟩ := X
  obtain ⟨hd, rfl⟩ := hd
  intro ok ι H lr sr lc hr hl ht
  obtain ⟨w, sr, rfl, h1, ht1⟩ := am_T_1 ht
  have hc : w.category = 1 := by
    match v, hv, h1 with
    | .inl x, _, h1 => cases h1; rfl
    | .inr (.inr none), _, h1 => cases h1; rfl
    | .inr (.inr (some y)), _, h1 => obtain ⟨a, -, rfl⟩ := h1; rfl
    | .inr (.inl x), hv, _ => exact absurd hv (by simp)
  exact lv_pop ok.1 ok.2.1 hd hc (kk ok ι H lr _ lc hr hl ht1)
theorem am_dup2 {x : Int} {y : am_Nm} (hd : am_d Y.1 pc .dup2 1 q) (kk : am_W G X Y d mc ms Q q ls (am_I x :: am_R y :: am_I x :: am_R y :: st) h k n) : am_W G X Y d mc ms Q pc ls (am_I x :: am_R y :: st) h k n := by
  obtain ⟨p, e, R, s, m, args, below, meth, c, ι0⟩ := X
  obtain ⟨hd, rfl⟩ := hd
  intro ok ι H lr sr lc hr hl ht
  obtain ⟨w, sr, rfl, h1, ht1⟩ := am_T_1 ht
  obtain ⟨u, sr, rfl, h2, ht2⟩ := am_T_1 ht1
  obtain ⟨a, h3, rfl⟩ := id h2
  cases h1
  exact lv_dup2_11 ok.1 ok.2.1 hd rfl rfl (kk ok ι H lr _ lc hr hl ⟨rfl, h2, rfl, h2, ht2⟩)
theorem am_goto {o : Int} (hd : am_b Y.1 pc (.goto o) o q t) (kk : am_W G X Y d mc ms Q t ls st h k n) : am_W G X Y d mc ms Q pc ls st h k n := by
  obtain ⟨p, e, R, s, m, args, below, meth, c, ι0⟩ := X
  obtain ⟨hd, rfl, ht⟩ := hd
  intro ok ι H lr sr lc hr hl hs
  exact lv_goto ok.1 ok.2.1 hd ht (kk ok ι H lr _ lc hr hl hs)
theorem am_iadd {a b : Int} (hd : am_d Y.1 pc .iadd 1 q) (kk : am_W G X Y d mc ms Q q ls (am_I (a + b) :: st) h k n) : am_W G X Y d mc ms Q pc ls (am_I b :: am_I a :: st) h k n := by
  obtain ⟨p, e, R, s, m, args, below, meth, c, ι0⟩ := X
  obtain ⟨hd, rfl⟩ := hd
  intro ok ι H lr sr lc hr hl ht
  obtain ⟨w, sr, rfl, h1, ht1⟩ := am_T_1 ht
  obtain ⟨u, sr, rfl, h2, ht2⟩ := am_T_1 ht1
  cases h1; cases h2
  exact lv_iadd ok.1 ok.2.1 hd (kk ok ι H lr _ lc hr hl ⟨by show Value.int _ = Value.int _; rw [Int32.ofInt_add], ht2⟩)
theorem am_isub {a b : Int} (hd : am_d Y.1 pc .isub 1 q) (kk : am_W G X Y d mc ms Q q ls (am_I (a - b) :: st) h k n) : am_W G X Y d mc ms Q pc ls (am_I b :: am_I a :: st) h k n := by
  obtain ⟨p, e, R, s, m, args, below, meth, c, ι0⟩ := X
  obtain ⟨hd, rfl⟩ := hd
  intro ok ι H lr sr lc hr hl ht
  obtain ⟨w, sr, rfl, h1, ht1⟩ := am_T_1 ht
  obtain ⟨u, sr, rfl, h2, ht2⟩ := am_T_1 ht1
  cases h1; cases h2
  exact lv_isub ok.1 ok.2.1 hd (kk ok ι H lr _ lc hr hl ⟨by show Value.int _ = Value.int _; rw [Int32.ofInt_sub], ht2⟩)
theorem am_imul {a b : Int} (hd : am_d Y.1 pc .imul 1 q) (kk : am_W G X Y d mc ms Q q ls (am_I (a * b) :: st) h k n) : am_W G X Y d mc ms Q pc ls (am_I b :: am_I a :: st) h k n := by
  obtain ⟨p, e, R, s, m, args, below, meth, c, ι0⟩ := X
  obtain ⟨hd, rfl⟩ := hd
  intro ok ι H lr sr lc hr hl ht
  obtain ⟨w, sr, rfl, h1, ht1⟩ := am_T_1 ht
  obtain ⟨u, sr, rfl, h2, ht2⟩ := am_T_1 ht1
  cases h1; cases h2
  exact lv_imul ok.1 ok.2.1 hd (kk ok ι H lr _ lc hr hl ⟨by show Value.int _ = Value.int _; rw [Int32.ofInt_mul], ht2⟩)
theorem am_ineg {a : Int} (hd : am_d Y.1 pc .ineg 1 q) (kk : am_W G X Y d mc ms Q q ls (am_I (-a) :: st) h k n) : am_W G X Y d mc ms Q pc ls (am_I a :: st) h k n := by
  obtain ⟨p, e, R, s, m, args, below, meth, c, ι0⟩ := X
  obtain ⟨hd, rfl⟩ := hd
  intro ok ι H lr sr lc hr hl ht
  obtain ⟨w, sr, rfl, h1, ht1⟩ := am_T_1 ht
  cases h1
  exact lv_ineg ok.1 ok.2.1 hd (kk ok ι H lr _ lc hr hl ⟨by show Value.int _ = Value.int _; rw [Int32.ofInt_neg], ht1⟩)
theorem am_div_eq {a b : Int} (ha : am_r a) (h0 : 0 ≤ a) (hb : am_r b) (h1 : 0 < b) : Int32.ofInt a / Int32.ofInt b = Int32.ofInt (a / b) := by
  rw [← Int32.toInt_inj, Int32.toInt_div_of_ne_right _ _ (fun e => by
    have e2 := congrArg Int32.toInt e
    rw [am_toInt hb] at e2
    have : (-1 : Int32).toInt = -1 := by decide
    omega), am_toInt ha, am_toInt hb, Int.tdiv_eq_ediv_of_nonneg h0]
  have : a / b ≤ a := Int.ediv_le_self _ h0
  have : 0 ≤ a / b := Int.ediv_nonneg h0 (by omega)
  exact (am_toInt ⟨by omega, by have := ha.2; omega⟩).symm
theorem am_idiv {a b : Int} (ha : am_r a) (h0 : 0 ≤ a) (hb : am_r b) (h1 : 0 < b) (hd : am_d Y.1 pc .idiv 1 q) (kk : am_W G X Y d mc ms Q q ls (am_I (a / b) :: st) h k n) : am_W G X Y d mc ms Q pc ls (am_I b :: am_I a :: st) h k n := by
  obtain ⟨p, e, R, s, m, args, below, meth, c, ι0⟩ := X
  obtain ⟨hd, rfl⟩ := hd
  intro ok ι H lr sr lc hr hl ht
  obtain ⟨w, sr, rfl, q1, ht1⟩ := am_T_1 ht
  obtain ⟨u, sr, rfl, q2, ht2⟩ := am_T_1 ht1
  cases q1; cases q2
  refine lv_idiv ok.1 ok.2.1 hd (fun z => ?_) (kk ok ι H lr _ lc hr hl ⟨by show Value.int _ = Value.int _; rw [am_div_eq ha h0 hb h1], ht2⟩)
  rw [am_z, am_eq hb am_r0] at z
  omega
theorem am_irem {a b : Int} (ha : am_r a) (h0 : 0 ≤ a) (hb : am_r b) (h1 : 0 < b) (hd : am_d Y.1 pc .irem 1 q) (kk : am_W G X Y d mc ms Q q ls (am_I (a % b) :: st) h k n) : am_W G X Y d mc ms Q pc ls (am_I b :: am_I a :: st) h k n := by
  obtain ⟨p, e, R, s, m, args, below, meth, c, ι0⟩ := X
  obtain ⟨hd, rfl⟩ := hd
  intro ok ι H lr sr lc hr hl ht
  obtain ⟨w, sr, rfl, q1, ht1⟩ := am_T_1 ht
  obtain ⟨u, sr, rfl, q2, ht2⟩ := am_T_1 ht1
  cases q1; cases q2
  refine lv_irem ok.1 ok.2.1 hd (fun z => ?_) (kk ok ι H lr _ lc hr hl ⟨?_, ht2⟩)
  · rw [am_z, am_eq hb am_r0] at z
    omega
  · show Value.int _ = Value.int _
    rw [am_div_eq ha h0 hb h1, ← Int32.ofInt_mul, ← Int32.ofInt_sub]
    congr 2
    have := Int.emod_add_mul_ediv a b
    rw [Int.mul_comm] at this
    omega
theorem am_i2l {a : Int} (ha : am_r a) (hd : am_d Y.1 pc .i2l 1 q) (kk : am_W G X Y d mc ms Q q ls (am_J a :: st) h k n) : am_W G X Y d mc ms Q pc ls (am_I a :: st) h k n := by
  obtain ⟨p, e, R, s, m, args, below, meth, c, ι0⟩ := X
  obtain ⟨hd, rfl⟩ := hd
  intro ok ι H lr sr lc hr hl ht
  obtain ⟨w, sr, rfl, q1, ht1⟩ := am_T_1 ht
  cases q1
  refine lv_i2l ok.1 ok.2.1 hd ?_ (kk ok ι H lr _ lc hr hl ⟨rfl, ht1⟩)
  exact Int32.toInt64_ofInt (by have := ha.1; show (-2147483648 : Int) ≤ a; exact this) (by have := ha.2; show a ≤ (2147483647 : Int); omega)
section AmIf
variable {a b o : Int}
theorem am_if_eq (ha : am_r a) (hd : am_b Y.1 pc (.ifCond .eq o) o q t) (kt : a = 0 → am_W G X Y d mc ms Q t ls st h k n) (kf : ¬ a = 0 → am_W G X Y d mc ms Q q ls st h k n) : am_W G X Y d mc ms Q pc ls (am_I a :: st) h k n := by
  obtain ⟨p, e, R, s, m, args, below, meth, c, ι0⟩ := X
  obtain ⟨hd, rfl, hg⟩ := hd
  intro ok ι H lr sr lc hr hl ht
  obtain ⟨w, sr, rfl, q1, ht1⟩ := am_T_1 ht
  cases q1
  exact lv_if_eq ok.1 ok.2.1 hd hg (fun z => kt ((am_eq ha am_r0).mp (by rw [← am_z]; exact z)) ok ι H lr _ lc hr hl ht1) (fun z => kf (fun y => z (by rw [am_z]; exact (am_eq ha am_r0).mpr y)) ok ι H lr _ lc hr hl ht1)
theorem am_if_ne (ha : am_r a) (hd : am_b Y.1 pc (.ifCond .ne o) o q t) (kt : ¬ a = 0 → am_W G X Y d mc ms Q t ls st h k n) (kf : a = 0 → am_W G X Y d mc ms Q q ls st h k n) : am_W G X Y d mc ms Q pc ls (am_I a :: st) h k n := by
  obtain ⟨p, e, R, s, m, args, below, meth, c, ι0⟩ := X
  obtain ⟨hd, rfl, hg⟩ := hd
  intro ok ι H lr sr lc hr hl ht
  obtain ⟨w, sr, rfl, q1, ht1⟩ := am_T_1 ht
  cases q1
  exact lv_if_ne ok.1 ok.2.1 hd hg (fun z => kt (fun y => absurd (show Int32.ofInt a = 0 by rw [am_z]; exact (am_eq ha am_r0).mpr y) z) ok ι H lr _ lc hr hl ht1) (fun z => kf ((am_eq ha am_r0).mp (by rw [← am_z]; exact z)) ok ι H lr _ lc hr hl ht1)
theorem am_if_lt (ha : am_r a) (hd : am_b Y.1 pc (.ifCond .lt o) o q t) (kt : a < 0 → am_W G X Y d mc ms Q t ls st h k n) (kf : ¬ a < 0 → am_W G X Y d mc ms Q q ls st h k n) : am_W G X Y d mc ms Q pc ls (am_I a :: st) h k n := by
  obtain ⟨p, e, R, s, m, args, below, meth, c, ι0⟩ := X
  obtain ⟨hd, rfl, hg⟩ := hd
  intro ok ι H lr sr lc hr hl ht
  obtain ⟨w, sr, rfl, q1, ht1⟩ := am_T_1 ht
  cases q1
  exact lv_if_lt ok.1 ok.2.1 hd hg (fun z => kt ((am_lt ha am_r0).mp (by rw [← am_z]; exact z)) ok ι H lr _ lc hr hl ht1) (fun z => kf (fun y => z (by rw [am_z]; exact (am_lt ha am_r0).mpr y)) ok ι H lr _ lc hr hl ht1)
theorem am_if_ge (ha : am_r a) (hd : am_b Y.1 pc (.ifCond .ge o) o q t) (kt : 0 ≤ a → am_W G X Y d mc ms Q t ls st h k n) (kf : ¬ 0 ≤ a → am_W G X Y d mc ms Q q ls st h k n) : am_W G X Y d mc ms Q pc ls (am_I a :: st) h k n := by
  obtain ⟨p, e, R, s, m, args, below, meth, c, ι0⟩ := X
  obtain ⟨hd, rfl, hg⟩ := hd
  intro ok ι H lr sr lc hr hl ht
  obtain ⟨w, sr, rfl, q1, ht1⟩ := am_T_1 ht
  cases q1
  exact lv_if_ge ok.1 ok.2.1 hd hg (fun z => kt ((am_lef am_r0 ha).mp (by rw [← am_z]; exact z)) ok ι H lr _ lc hr hl ht1) (fun z => kf (fun y => z (by show (0 : Int32) ≤ _; rw [am_z]; exact (am_lef am_r0 ha).mpr y)) ok ι H lr _ lc hr hl ht1)
theorem am_if_gt (ha : am_r a) (hd : am_b Y.1 pc (.ifCond .gt o) o q t) (kt : 0 < a → am_W G X Y d mc ms Q t ls st h k n) (kf : ¬ 0 < a → am_W G X Y d mc ms Q q ls st h k n) : am_W G X Y d mc ms Q pc ls (am_I a :: st) h k n := by
  obtain ⟨p, e, R, s, m, args, below, meth, c, ι0⟩ := X
  obtain ⟨hd, rfl, hg⟩ := hd
  intro ok ι H lr sr lc hr hl ht
  obtain ⟨w, sr, rfl, q1, ht1⟩ := am_T_1 ht
  cases q1
  exact lv_if_gt ok.1 ok.2.1 hd hg (fun z => kt ((am_lt am_r0 ha).mp (by rw [← am_z]; exact z)) ok ι H lr _ lc hr hl ht1) (fun z => kf (fun y => z (by show (0 : Int32) < _; rw [am_z]; exact (am_lt am_r0 ha).mpr y)) ok ι H lr _ lc hr hl ht1)
theorem am_if_le (ha : am_r a) (hd : am_b Y.1 pc (.ifCond .le o) o q t) (kt : a ≤ 0 → am_W G X Y d mc ms Q t ls st h k n) (kf : ¬ a ≤ 0 → am_W G X Y d mc ms Q q ls st h k n) : am_W G X Y d mc ms Q pc ls (am_I a :: st) h k n := by
  obtain ⟨p, e, R, s, m, args, below, meth, c, ι0⟩ := X
  obtain ⟨hd, rfl, hg⟩ := hd
  intro ok ι H lr sr lc hr hl ht
  obtain ⟨w, sr, rfl, q1, ht1⟩ := am_T_1 ht
  cases q1
  exact lv_if_le ok.1 ok.2.1 hd hg (fun z => kt ((am_lef ha am_r0).mp (by rw [← am_z]; exact z)) ok ι H lr _ lc hr hl ht1) (fun z => kf (fun y => z (by show _ ≤ (0 : Int32); rw [am_z]; exact (am_lef ha am_r0).mpr y)) ok ι H lr _ lc hr hl ht1)
theorem am_icmp_eq (ha : am_r a) (hb : am_r b) (hd : am_b Y.1 pc (.if_icmp .eq o) o q t) (kt : a = b → am_W G X Y d mc ms Q t ls st h k n) (kf : ¬ a = b → am_W G X Y d mc ms Q q ls st h k n) : am_W G X Y d mc ms Q pc ls (am_I b :: am_I a :: st) h k n := by
  obtain ⟨p, e, R, s, m, args, below, meth, c, ι0⟩ := X
  obtain ⟨hd, rfl, hg⟩ := hd
  intro ok ι H lr sr lc hr hl ht
  obtain ⟨w, sr, rfl, q1, ht1⟩ := am_T_1 ht
  obtain ⟨u, sr, rfl, q2, ht2⟩ := am_T_1 ht1
  cases q1; cases q2
  exact lv_icmp_eq ok.1 ok.2.1 hd hg (fun z => kt ((am_eq ha hb).mp z) ok ι H lr _ lc hr hl ht2) (fun z => kf (fun y => z ((am_eq ha hb).mpr y)) ok ι H lr _ lc hr hl ht2)
theorem am_icmp_ne (ha : am_r a) (hb : am_r b) (hd : am_b Y.1 pc (.if_icmp .ne o) o q t) (kt : ¬ a = b → am_W G X Y d mc ms Q t ls st h k n) (kf : a = b → am_W G X Y d mc ms Q q ls st h k n) : am_W G X Y d mc ms Q pc ls (am_I b :: am_I a :: st) h k n := by
  obtain ⟨p, e, R, s, m, args, below, meth, c, ι0⟩ := X
  obtain ⟨hd, rfl, hg⟩ := hd
  intro ok ι H lr sr lc hr hl ht
  obtain ⟨w, sr, rfl, q1, ht1⟩ := am_T_1 ht
  obtain ⟨u, sr, rfl, q2, ht2⟩ := am_T_1 ht1
  cases q1; cases q2
  exact lv_icmp_ne ok.1 ok.2.1 hd hg (fun z => kt (fun y => absurd ((am_eq ha hb).mpr y) z) ok ι H lr _ lc hr hl ht2) (fun z => kf ((am_eq ha hb).mp z) ok ι H lr _ lc hr hl ht2)
theorem am_icmp_lt (ha : am_r a) (hb : am_r b) (hd : am_b Y.1 pc (.if_icmp .lt o) o q t) (kt : a < b → am_W G X Y d mc ms Q t ls st h k n) (kf : ¬ a < b → am_W G X Y d mc ms Q q ls st h k n) : am_W G X Y d mc ms Q pc ls (am_I b :: am_I a :: st) h k n := by
  obtain ⟨p, e, R, s, m, args, below, meth, c, ι0⟩ := X
  obtain ⟨hd, rfl, hg⟩ := hd
  intro ok ι H lr sr lc hr hl ht
  obtain ⟨w, sr, rfl, q1, ht1⟩ := am_T_1 ht
  obtain ⟨u, sr, rfl, q2, ht2⟩ := am_T_1 ht1
  cases q1; cases q2
  exact lv_icmp_lt ok.1 ok.2.1 hd hg (fun z => kt ((am_lt ha hb).mp z) ok ι H lr _ lc hr hl ht2) (fun z => kf (fun y => z ((am_lt ha hb).mpr y)) ok ι H lr _ lc hr hl ht2)
theorem am_icmp_ge (ha : am_r a) (hb : am_r b) (hd : am_b Y.1 pc (.if_icmp .ge o) o q t) (kt : b ≤ a → am_W G X Y d mc ms Q t ls st h k n) (kf : ¬ b ≤ a → am_W G X Y d mc ms Q q ls st h k n) : am_W G X Y d mc ms Q pc ls (am_I b :: am_I a :: st) h k n := by
  obtain ⟨p, e, R, s, m, args, below, meth, c, ι0⟩ := X
  obtain ⟨hd, rfl, hg⟩ := hd
  intro ok ι H lr sr lc hr hl ht
  obtain ⟨w, sr, rfl, q1, ht1⟩ := am_T_1 ht
  obtain ⟨u, sr, rfl, q2, ht2⟩ := am_T_1 ht1
  cases q1; cases q2
  exact lv_icmp_ge ok.1 ok.2.1 hd hg (fun z => kt ((am_lef hb ha).mp z) ok ι H lr _ lc hr hl ht2) (fun z => kf (fun y => z ((am_lef hb ha).mpr y)) ok ι H lr _ lc hr hl ht2)
theorem am_icmp_gt (ha : am_r a) (hb : am_r b) (hd : am_b Y.1 pc (.if_icmp .gt o) o q t) (kt : b < a → am_W G X Y d mc ms Q t ls st h k n) (kf : ¬ b < a → am_W G X Y d mc ms Q q ls st h k n) : am_W G X Y d mc ms Q pc ls (am_I b :: am_I a :: st) h k n := by
  obtain ⟨p, e, R, s, m, args, below, meth, c, ι0⟩ := X
  obtain ⟨hd, rfl, hg⟩ := hd
  intro ok ι H lr sr lc hr hl ht
  obtain ⟨w, sr, rfl, q1, ht1⟩ := am_T_1 ht
  obtain ⟨u, sr, rfl, q2, ht2⟩ := am_T_1 ht1
  cases q1; cases q2
  exact lv_icmp_gt ok.1 ok.2.1 hd hg (fun z => kt ((am_lt hb ha).mp z) ok ι H lr _ lc hr hl ht2) (fun z => kf (fun y => z ((am_lt hb ha).mpr y)) ok ι H lr _ lc hr hl ht2)
theorem am_icmp_le (ha : am_r a) (hb : am_r b) (hd : am_b Y.1 pc (.if_icmp .le o) o q t) (kt : a ≤ b → am_W G X Y d mc ms Q t ls st h k n) (kf : ¬ a ≤ b → am_W G X Y d mc ms Q q ls st h k n) : am_W G X Y d mc ms Q pc ls (am_I b :: am_I a :: st) h k n := by
  obtain ⟨p, e, R, s, m, args, below, meth, c, ι0⟩ := X
  obtain ⟨hd, rfl, hg⟩ := hd
  intro ok ι H lr sr lc hr hl ht
  obtain ⟨w, sr, rfl, q1, ht1⟩ := am_T_1 ht
  obtain ⟨u, sr, rfl, q2, ht2⟩ := am_T_1 ht1
  cases q1; cases q2
  exact lv_icmp_le ok.1 ok.2.1 hd hg (fun z => kt ((am_lef ha hb).mp z) ok ι H lr _ lc hr hl ht2) (fun z => kf (fun y => z ((am_lef ha hb).mpr y)) ok ι H lr _ lc hr hl ht2)
theorem am_ifnull {x : Option am_Nm} (hd : am_b Y.1 pc (.ifnull o) o q t) (kt : x = none → am_W G X Y d mc ms Q t ls st h k n) (kf : ∀ y, x = some y → am_W G X Y d mc ms Q q ls st h k n) : am_W G X Y d mc ms Q pc ls (Sum.inr (Sum.inr x) :: st) h k n := by
  obtain ⟨p, e, R, s, m, args, below, meth, c, ι0⟩ := X
  obtain ⟨hd, rfl, hg⟩ := hd
  intro ok ι H lr sr lc hr hl ht
  obtain ⟨w, sr, rfl, q1, ht1⟩ := am_T_1 ht
  cases x with
  | none =>
    cases q1
    exact lv_ifnullN ok.1 ok.2.1 hd hg (kt rfl ok ι H lr _ lc hr hl ht1)
  | some y =>
    obtain ⟨a, -, rfl⟩ := q1
    exact lv_ifnull ok.1 ok.2.1 hd (kf y rfl ok ι H lr _ lc hr hl ht1)
theorem am_ifnonnull {x : Option am_Nm} (hd : am_b Y.1 pc (.ifnonnull o) o q t) (kt : ∀ y, x = some y → am_W G X Y d mc ms Q t ls st h k n) (kf : x = none → am_W G X Y d mc ms Q q ls st h k n) : am_W G X Y d mc ms Q pc ls (Sum.inr (Sum.inr x) :: st) h k n := by
  obtain ⟨p, e, R, s, m, args, below, meth, c, ι0⟩ := X
  obtain ⟨hd, rfl, hg⟩ := hd
  intro ok ι H lr sr lc hr hl ht
  obtain ⟨w, sr, rfl, q1, ht1⟩ := am_T_1 ht
  cases x with
  | none =>
    cases q1
    exact lv_ifnonnullN ok.1 ok.2.1 hd (kf rfl ok ι H lr _ lc hr hl ht1)
  | some y =>
    obtain ⟨a, -, rfl⟩ := q1
    exact lv_ifnonnull ok.1 ok.2.1 hd hg (kt y rfl ok ι H lr _ lc hr hl ht1)
end AmIf
end AmPure
end
section
/-! the heap's rows -/
/-- the type of a field, by class and place -/
def am_fty (ci : Nat) : Nat → FieldType := match ci with
  | 0 => tyX0 | 1 => tyX1 | 2 => tyX2 | 3 => tyX3 | 4 => tyX4 | 5 => tyX5 | 6 => tyX6 | 7 => tyX7 | 8 => tyX8 | _ => tyX9
theorem am_in0 : ∀ w ∈ u_ws RX0 TX0 5, w ∈ am_uw := by decide +kernel
theorem am_in1 : ∀ w ∈ u_ws RX1 TX1 3, w ∈ am_uw := by decide +kernel
theorem am_in2 : ∀ w ∈ u_ws RX2 TX2 6, w ∈ am_uw := by decide +kernel
theorem am_in3 : ∀ w ∈ u_ws RX3 TX3 4, w ∈ am_uw := by decide +kernel
theorem am_in4 : ∀ w ∈ u_ws RX4 TX4 3, w ∈ am_uw := by decide +kernel
theorem am_in5 : ∀ w ∈ u_ws RX5 TX5 5, w ∈ am_uw := by decide +kernel
theorem am_in6 : ∀ w ∈ u_ws RX6 TX6 5, w ∈ am_uw := by decide +kernel
theorem am_in7 : ∀ w ∈ u_ws RX7 TX7 4, w ∈ am_uw := by decide +kernel
theorem am_in8 : ∀ w ∈ u_ws RX8 TX8 14, w ∈ am_uw := by decide +kernel
theorem am_in9 : ∀ w ∈ u_ws RX9 TX9 43, w ∈ am_uw := by decide +kernel
def am_cok (ci : Nat) (r : vw_C) : Prop := (∀ w ∈ u_ws r.1 r.2.1 r.2.2, w ∈ am_uw) ∧ (∀ k, k < r.2.2 → parseFieldDescriptor (r.2.1 k).2.2.1 = some (am_fty ci k)) ∧ (∀ a, a < r.2.2 → ∀ b, b < r.2.2 → a ≠ b → (r.2.1 a).2.1 ≠ (r.2.1 b).2.1) ∧ (∀ k, k < r.2.2 → (r.2.1 k).1 = r.1)
theorem am_cls {ci : Nat} {r : vw_C} (h : vwCl[ci]? = some r) : am_cok ci r := by
  match ci, h with
  | 0, h => cases h; exact ⟨am_in0, tyX0_ok, nmX0, by decide +kernel⟩
  | 1, h => cases h; exact ⟨am_in1, tyX1_ok, nmX1, by decide +kernel⟩
  | 2, h => cases h; exact ⟨am_in2, tyX2_ok, nmX2, by decide +kernel⟩
  | 3, h => cases h; exact ⟨am_in3, tyX3_ok, nmX3, by decide +kernel⟩
  | 4, h => cases h; exact ⟨am_in4, tyX4_ok, nmX4, by decide +kernel⟩
  | 5, h => cases h; exact ⟨am_in5, tyX5_ok, nmX5, by decide +kernel⟩
  | 6, h => cases h; exact ⟨am_in6, tyX6_ok, nmX6, by decide +kernel⟩
  | 7, h => cases h; exact ⟨am_in7, tyX7_ok, nmX7, by decide +kernel⟩
  | 8, h => cases h; exact ⟨am_in8, tyX8_ok, nmX8, by decide +kernel⟩
  | 9, h => cases h; exact ⟨am_in9, tyX9_ok, nmX9, by decide +kernel⟩
  | ci + 10, h => simp [vwCl] at h
/-- a field's link: the class and the place of it; its own class's, or a nest mate's -/
def am_fl (own : String) (idx ci j : Nat) : Prop := ∃ r, vwCl[ci]? = some r ∧ j < r.2.2 ∧ (Cond.fieldLink own idx (r.2.1 j).1 (r.2.1 j).2.1 (r.2.1 j).2.2.1 ∈ am_uw ∨ ∃ host, Cond.fieldLinkNest own idx (r.2.1 j).1 (r.2.1 j).2.1 (r.2.1 j).2.2.1 host ∈ lw_tbl)
def am_fin (ci j : Nat) : Bool := match vwCl[ci]? with
  | some r => (r.2.1 j).2.2.2
  | none => false
/-- a value fits a field's type -/
def am_fit (ty : FieldType) (v : am_AV) : Prop := match ty, v with
  | .int, .inl _ => True
  | .boolean, .inl x => x = 0 ∨ x = 1
  | .object _, .inr (.inr _) => True
  | .array _, .inr (.inr _) => True
  | _, _ => False
theorem am_fit_of {ty : FieldType} {v : am_AV} {ι : am_Nm → Option Nat} {w : Value} (h : am_fit ty v) (hv : am_V ι v w) : narrow ty w = w ∧ fits ty w = true := by
  match ty, v, h, hv with
  | .int, .inl x, _, hv => cases hv; exact ⟨rfl, rfl⟩
  | .boolean, .inl x, h, hv =>
    cases hv
    rcases h with rfl | rfl <;> exact ⟨by decide +kernel, by decide +kernel⟩
  | .object c, .inr (.inr none), _, hv => cases hv; exact ⟨rfl, rfl⟩
  | .object c, .inr (.inr (some x)), _, hv => obtain ⟨a, -, rfl⟩ := hv; exact ⟨rfl, rfl⟩
  | .array c, .inr (.inr none), _, hv => cases hv; exact ⟨rfl, rfl⟩
  | .array c, .inr (.inr (some x)), _, hv => obtain ⟨a, -, rfl⟩ := hv; exact ⟨rfl, rfl⟩
section AmHeap
variable {G : am_G} {X : am_X} {Y : am_Y} {d mc ms : Nat} {Q : State → Prop} {pc q t : Nat} {ls : List (Option am_AV)} {st : List am_AV} {h : am_AH} {k n : Nat}
theorem am_getf {nm : am_Nm} {idx ci j : Nat} {fs : List am_AV} {v : am_AV} (hd : am_d Y.1 pc (.getfield idx) 3 q) (hf : am_fl Y.2.2.1 idx ci j) (hh : h nm = some (am_O ci fs)) (hv : fs[j]? = some v) (kk : am_W G X Y d mc ms Q q ls (v :: st) h k n) : am_W G X Y d mc ms Q pc ls (am_R nm :: st) h k n := by
  obtain ⟨p, e, R, s, m, args, below, meth, c, ι0⟩ := X
  obtain ⟨hd, rfl⟩ := hd
  intro ok ι H lr sr lc hr hl ht
  obtain ⟨w, sr, rfl, ⟨a, ha, rfl⟩, ht1⟩ := am_T_1 ht
  have ok' := ok
  obtain ⟨hx, hb, -, hown, hts, -, -, -, -, -, -, -, -, -, hK⟩ := ok
  obtain ⟨hKa, -, hmv, -⟩ := id hK
  obtain ⟨a', ha', r, V, hr1, ⟨ce9, q1, q2, q3, q4⟩, hV⟩ := hr.1.1 nm _ hh
  cases ha.symm.trans ha'
  obtain ⟨r', hr1', hj, hlk⟩ := hf
  cases hr1.symm.trans hr1'
  obtain ⟨c1, c2, c3, c4⟩ := am_cls hr1
  obtain ⟨hS, hfc, kC, hkC, hkind⟩ := hKa.1 ci _ hr1
  obtain ⟨cf, kf, fi, f, hi, hsl⟩ := hS j hj
  have hst := (u_facts hfc hkC (u_lays hts c1 hj) hi).1
  have hv2 := hV j v hv
  have hslot : ce9.slots[f.slot]? = some (V j) := by rw [hsl, q4 j hj]
  have hkn : ce9.vm ≠ .unknown := by rw [q3]; exact fun z => by cases z
  rcases hlk with hlk | ⟨host, hlk⟩
  · exact W.getf hx hb hown (hts _ hlk) hi hst q1 hkn hslot rfl rfl hd (kk ok' ι H lr _ lc hr hl ⟨hv2, ht1⟩)
  · exact va_Wgetf hx hb hown (va_Nw.use rfl (hmv _ hlk rfl)) hi hst q1 hkn hslot rfl rfl hd (kk ok' ι H lr _ lc hr hl ⟨hv2, ht1⟩)
theorem am_scr_ne {ι : am_Nm → Option Nat} {H : Heap} {nm : am_Nm} {c : am_AC} {a : Nat} (hH : am_H G ι h H) (hh : h nm = some c) (ha : ι nm = some a) : am_free G a := by
  rcases hH.2.1 nm a ha with ⟨e, -⟩ | ⟨-, z, -⟩
  · rw [e] at hh; rw [hH.2.2.2.1] at hh; cases hh
  · exact z
theorem am_Rel_set {ι : am_Nm → Option Nat} {H H1 : Heap} {nm : am_Nm} {c c1 : am_AC} {a sl : Nat} {lc : List Loc} (hr : am_Rel G X ι h H lc) (hh : h nm = some c) (ha : ι nm = some a) (hz : H1.size = H.size) (ho : ∀ b, b ≠ a → H1[b]? = H[b]?) (hc : am_C G ι c1 a H1) : am_Rel G X ι (am_up h nm c1) H1 (lc ++ [⟨a, sl⟩]) := by
  obtain ⟨p, e, R, s, m, args, below, meth, c, ι0⟩ := X
  obtain ⟨r1, r2, r3, r4, r5⟩ := hr
  have hfr := am_scr_ne r1 hh ha
  refine ⟨am_H_set r1 hh ha hz ho hc, ⟨by rw [hz]; exact r2.1, fun x hx => ?_⟩, by rw [hz]; exact r3, fun z hz => ?_, r5⟩
  · rw [ho x (fun e => by subst e; exact absurd hx (Nat.not_lt.mpr hfr))]
    exact r2.2 x hx
  · rcases List.mem_append.mp hz with hz | hz
    · exact r4 z hz
    · rw [List.mem_singleton.mp hz]; exact hfr
theorem am_putf {nm : am_Nm} {idx ci j : Nat} {fs : List am_AV} {v : am_AV} (hd : am_d Y.1 pc (.putfield idx) 3 q) (hf : am_fl Y.2.2.1 idx ci j) (hfin : am_fin ci j = false) (hh : h nm = some (am_O ci fs)) (hj0 : j < fs.length) (hfit : am_fit (am_fty ci j) v) (kk : am_W G X Y d mc ms Q q ls st (am_up h nm (am_O ci (fs.set j v))) k n) : am_W G X Y d mc ms Q pc ls (v :: am_R nm :: st) h k n := by
  obtain ⟨p, e, R, s, m, args, below, meth, c, ι0⟩ := X
  obtain ⟨hd, rfl⟩ := hd
  intro ok ι H lr sr lc hr hl ht
  obtain ⟨w, sr, rfl, hw, ht1⟩ := am_T_1 ht
  obtain ⟨w2, sr, rfl, ⟨a, ha, rfl⟩, ht2⟩ := am_T_1 ht1
  have ok' := ok
  obtain ⟨hx, hb, -, hown, hts, -, -, -, -, -, -, -, -, -, hK⟩ := ok
  obtain ⟨hKa, -, hmv, -⟩ := id hK
  obtain ⟨a', ha', r, V, hr1, ⟨ce9, q1, q2, q3, q4⟩, hV⟩ := hr.1.1 nm _ hh
  cases ha.symm.trans ha'
  obtain ⟨r', hr1', hj, hlk⟩ := hf
  cases hr1.symm.trans hr1'
  obtain ⟨c1, c2, c3, c4⟩ := am_cls hr1
  have hap := va_apart (own := Y.2.2.1) hts c1 (am_fty ci) c2 c3 hKa hr1
  obtain ⟨hS, hfc, kC, hkC, hkind⟩ := hKa.1 ci _ hr1
  obtain ⟨cf, kf, fi, f, hi, hsl⟩ := hS j hj
  have hlay := hts _ (c1 _ (u_in_lay hj))
  have hfin2 : (r.2.1 j).2.2.2 = false := by simpa [am_fin, hr1] using hfin
  unfold u_lay at hlay
  rw [if_neg (by rw [hfin2]; decide)] at hlay
  have hst := (u_facts hfc hkC (u_lays hts c1 hj) hi).1
  obtain ⟨hn, hft⟩ := am_fit_of hfit hw
  have h6 := u_store hfc hkC hkind hlay hi (c2 j hj) hn hft
  have hlt : f.slot < ce9.slots.size := by rw [hsl]; exact k2_hasslot (q4 j hj)
  have key : ∀ H' : Heap, H'[a]? = some (ce9.setSlot f.slot w) → H'.size = H.size → (∀ q, q ≠ a → H'[q]? = H[q]?) → W p G.1 e R s m args below meth c H' (lc ++ [⟨a, f.slot⟩]) k n Q (F0 m (pc + 3) lr sr) := by
    intro H' e1 e2 e3
    refine kk ok' ι H' lr sr _ (am_Rel_set hr hh ha e2 e3 ?_) hl ht2
    rw [hsl] at e1
    refine ⟨r, updV V j w, hr1, ⟨_, e1, q2, q3, t_set q4 hap hj w⟩, fun i v' hi' => ?_⟩
    by_cases ei : i = j
    · subst ei
      rw [List.getElem?_set_self hj0] at hi'
      cases hi'
      simpa [updV] using hw
    · rw [List.getElem?_set_ne (Ne.symm ei)] at hi'
      simpa [updV, ei] using hV i v' hi'
  rcases hlk with hlk | ⟨host, hlk⟩
  · exact W.putK hx hb (f := f) ⟨hown, hts _ hlk, ⟨_, _, _, hi⟩, hst⟩ (by rw [q2]; exact h6) q1 q3 hlt rfl rfl hd key
  · exact va_WputK hx hb hown (va_Nw.use rfl (hmv _ hlk rfl)) hi hst (by rw [q2]; exact h6) q1 q3 hlt rfl rfl hd key
theorem am_putF {nm : am_Nm} {idx ci j : Nat} {fs : List am_AV} {v : am_AV} (hd : am_d Y.1 pc (.putfield idx) 3 q) (hf : am_fl Y.2.2.1 idx ci j) (hfin : am_fin ci j = true) (hinit : Y.2.2.2.2.1 = true) (hcl : (vwCl[ci]?).map (fun r => r.1) = some Y.2.2.1) (hh : h nm = some (am_O ci fs)) (hj0 : j < fs.length) (hfit : am_fit (am_fty ci j) v) (kk : am_W G X Y d mc ms Q q ls st (am_up h nm (am_O ci (fs.set j v))) k n) : am_W G X Y d mc ms Q pc ls (v :: am_R nm :: st) h k n := by
  obtain ⟨p, e, R, s, m, args, below, meth, c, ι0⟩ := X
  obtain ⟨hd, rfl⟩ := hd
  intro ok ι H lr sr lc hr hl ht
  obtain ⟨w, sr, rfl, hw, ht1⟩ := am_T_1 ht
  obtain ⟨w2, sr, rfl, ⟨a, ha, rfl⟩, ht2⟩ := am_T_1 ht1
  have ok' := ok
  obtain ⟨hx, hb, -, hown, hts, -, -, hnm, -, -, -, -, -, -, hK⟩ := ok
  obtain ⟨hKa, -, hmv, -⟩ := id hK
  obtain ⟨a', ha', r, V, hr1, ⟨ce9, q1, q2, q3, q4⟩, hV⟩ := hr.1.1 nm _ hh
  cases ha.symm.trans ha'
  obtain ⟨r', hr1', hj, hlk⟩ := hf
  cases hr1.symm.trans hr1'
  obtain ⟨c1, c2, c3, c4⟩ := am_cls hr1
  have hap := va_apart (own := Y.2.2.1) hts c1 (am_fty ci) c2 c3 hKa hr1
  obtain ⟨hS, hfc, kC, hkC, hkind⟩ := hKa.1 ci _ hr1
  obtain ⟨cf, kf, fi, f, hi, hsl⟩ := hS j hj
  have hlay := hts _ (c1 _ (u_in_lay hj))
  have hfin2 : (r.2.1 j).2.2.2 = true := by simpa [am_fin, hr1] using hfin
  have hdecl : (r.2.1 j).1 = Y.2.2.1 := by rw [c4 j hj]; simpa [hr1] using hcl
  unfold u_lay at hlay
  rw [if_pos hfin2] at hlay
  have hst := (u_facts hfc hkC (u_lays hts c1 hj) hi).1
  have hcf : m.cls = cf := by
    obtain ⟨_, _, c', _, _, _, -, -, hf', -, -, -, hown2, -⟩ := Cond.laysFinal_spec hlay
    have e1 : c' = cf := by have := hi.symm.trans hf'; simp at this; exact this.1.symm
    rw [hdecl] at hown2
    rw [← e1]; exact Option.some.inj (hown.symm.trans hown2)
  obtain ⟨hn, hft⟩ := am_fit_of hfit hw
  have h6 := u_fits hfc hkC hkind (Or.inr hlay) hi (c2 j hj) hn hft
  have hlt : f.slot < ce9.slots.size := by rw [hsl]; exact k2_hasslot (q4 j hj)
  have key : ∀ H' : Heap, H'[a]? = some (ce9.setSlot f.slot w) → H'.size = H.size → (∀ q, q ≠ a → H'[q]? = H[q]?) → W p G.1 e R s m args below meth c H' (lc ++ [⟨a, f.slot⟩]) k n Q (F0 m (pc + 3) lr sr) := by
    intro H' e1 e2 e3
    refine kk ok' ι H' lr sr _ (am_Rel_set hr hh ha e2 e3 ?_) hl ht2
    rw [hsl] at e1
    refine ⟨r, updV V j w, hr1, ⟨_, e1, q2, q3, t_set q4 hap hj w⟩, fun i v' hi' => ?_⟩
    by_cases ei : i = j
    · subst ei
      rw [List.getElem?_set_self hj0] at hi'
      cases hi'
      simpa [updV] using hw
    · rw [List.getElem?_set_ne (Ne.symm ei)] at hi'
      simpa [updV, ei] using hV i v' hi'
  rcases hlk with hlk | ⟨host, hlk⟩
  · exact W.putFinK hx hb hown (hts _ hlk) hi hst hcf (hnm hinit) (by rw [q2]; exact h6) q1 q3 hlt rfl rfl hd key
  · exact va_Wputf hx hb hown (va_Nw.use rfl (hmv _ hlk rfl)) hi hst (Or.inr ⟨hcf, hnm hinit⟩) q1 (by rw [q3]; exact fun z => by cases z) hlt h6.1 (by rw [q2, q3]; exact h6.2) rfl rfl hd (key _ (by simp [Array.getElem?_setIfInBounds, (Array.getElem?_eq_some_iff.mp q1).1]) (by simp) (fun b hb => by simp [Array.getElem?_setIfInBounds, Ne.symm hb]))
theorem am_iald {nm : am_Nm} {len : Nat} {f : Nat → am_AV} {i x : Int} (hd : am_d Y.1 pc .iaload 1 q) (hh : h nm = some (am_A 0 len f)) (h0 : 0 ≤ i) (h1 : i < len) (hz : len < 2147483648) (hv : f i.toNat = am_I x) (kk : am_W G X Y d mc ms Q q ls (am_I x :: st) h k n) : am_W G X Y d mc ms Q pc ls (am_I i :: am_R nm :: st) h k n := by
  obtain ⟨p, e, R, s, m, args, below, meth, c, ι0⟩ := X
  obtain ⟨hd, rfl⟩ := hd
  intro ok ι H lr sr lc hr hl ht
  obtain ⟨w, sr, rfl, hw, ht1⟩ := am_T_1 ht
  cases hw
  obtain ⟨w2, sr, rfl, ⟨a, ha, rfl⟩, ht2⟩ := am_T_1 ht1
  obtain ⟨a', ha', wv, q1, q2⟩ := hr.1.1 nm _ hh
  cases ha.symm.trans ha'
  obtain ⟨b1, b2⟩ := am_idx h0 h1 hz
  have hy := q2 i.toNat (by omega)
  rw [hv] at hy
  refine W.iald ok.1 ok.2.1 q1 ((ok.2.2.2.2.2.2.2.2.2.2.2.2.2.2.1.2 0 _ (am_tys_at G 0 (by decide))).1 len wv) (fun z => by cases z) (by rw [arrV_size]; exact b1) (v := wv i.toNat) (by rw [b2]; exact arrV_read _ _ (by omega)) rfl rfl hd ?_
  exact kk ok ι H lr _ lc hr hl ⟨hy, ht2⟩
theorem am_bald {nm : am_Nm} {len : Nat} {f : Nat → am_AV} {i x : Int} (hd : am_d Y.1 pc .baload 1 q) (hh : h nm = some (am_A 1 len f)) (h0 : 0 ≤ i) (h1 : i < len) (hz : len < 2147483648) (hv : f i.toNat = am_I x) (kk : am_W G X Y d mc ms Q q ls (am_I x :: st) h k n) : am_W G X Y d mc ms Q pc ls (am_I i :: am_R nm :: st) h k n := by
  obtain ⟨p, e, R, s, m, args, below, meth, c, ι0⟩ := X
  obtain ⟨hd, rfl⟩ := hd
  intro ok ι H lr sr lc hr hl ht
  obtain ⟨w, sr, rfl, hw, ht1⟩ := am_T_1 ht
  cases hw
  obtain ⟨w2, sr, rfl, ⟨a, ha, rfl⟩, ht2⟩ := am_T_1 ht1
  obtain ⟨a', ha', wv, q1, q2⟩ := hr.1.1 nm _ hh
  cases ha.symm.trans ha'
  obtain ⟨b1, b2⟩ := am_idx h0 h1 hz
  have hy := q2 i.toNat (by omega)
  rw [hv] at hy
  refine W.zald ok.1 ok.2.1 q1 ((ok.2.2.2.2.2.2.2.2.2.2.2.2.2.2.1.2 1 _ (am_tys_at G 1 (by decide))).1 len wv) (fun z => by cases z) (by rw [arrV_size]; exact b1) (v := wv i.toNat) (by rw [b2]; exact arrV_read _ _ (by omega)) rfl rfl hd ?_
  exact kk ok ι H lr _ lc hr hl ⟨hy, ht2⟩
theorem am_lald {nm : am_Nm} {len : Nat} {f : Nat → am_AV} {i x : Int} (hd : am_d Y.1 pc .laload 1 q) (hh : h nm = some (am_A 2 len f)) (h0 : 0 ≤ i) (h1 : i < len) (hz : len < 2147483648) (hv : f i.toNat = am_J x) (kk : am_W G X Y d mc ms Q q ls (am_J x :: st) h k n) : am_W G X Y d mc ms Q pc ls (am_I i :: am_R nm :: st) h k n := by
  obtain ⟨p, e, R, s, m, args, below, meth, c, ι0⟩ := X
  obtain ⟨hd, rfl⟩ := hd
  intro ok ι H lr sr lc hr hl ht
  obtain ⟨w, sr, rfl, hw, ht1⟩ := am_T_1 ht
  cases hw
  obtain ⟨w2, sr, rfl, ⟨a, ha, rfl⟩, ht2⟩ := am_T_1 ht1
  obtain ⟨a', ha', wv, q1, q2⟩ := hr.1.1 nm _ hh
  cases ha.symm.trans ha'
  obtain ⟨b1, b2⟩ := am_idx h0 h1 hz
  have hy := q2 i.toNat (by omega)
  rw [hv] at hy
  refine W.lald ok.1 ok.2.1 q1 ((ok.2.2.2.2.2.2.2.2.2.2.2.2.2.2.1.2 2 _ (am_tys_at G 2 (by decide))).1 len wv) (fun z => by cases z) (by rw [arrV_size]; exact b1) (v := wv i.toNat) (by rw [b2]; exact arrV_read _ _ (by omega)) rfl rfl hd ?_
  exact kk ok ι H lr _ lc hr hl ⟨hy, ht2⟩
theorem am_ty_ref {kd : Nat} (h3 : 3 ≤ kd) (h8 : kd < 8) : (am_ty kd).isReference = true := by
  rcases (show kd = 3 ∨ kd = 4 ∨ kd = 5 ∨ kd = 6 ∨ kd = 7 by omega) with rfl | rfl | rfl | rfl | rfl <;> rfl
theorem am_aald {nm : am_Nm} {kd len : Nat} {f : Nat → am_AV} {i : Int} {x : am_AV} (hd : am_d Y.1 pc .aaload 1 q) (hh : h nm = some (am_A kd len f)) (hk3 : 3 ≤ kd) (hk8 : kd < 8) (h0 : 0 ≤ i) (h1 : i < len) (hz : len < 2147483648) (hv : f i.toNat = x) (kk : am_W G X Y d mc ms Q q ls (x :: st) h k n) : am_W G X Y d mc ms Q pc ls (am_I i :: am_R nm :: st) h k n := by
  obtain ⟨p, e, R, s, m, args, below, meth, c, ι0⟩ := X
  obtain ⟨hd, rfl⟩ := hd
  intro ok ι H lr sr lc hr hl ht
  obtain ⟨w, sr, rfl, hw, ht1⟩ := am_T_1 ht
  cases hw
  obtain ⟨w2, sr, rfl, ⟨a, ha, rfl⟩, ht2⟩ := am_T_1 ht1
  obtain ⟨a', ha', wv, q1, q2⟩ := hr.1.1 nm _ hh
  cases ha.symm.trans ha'
  obtain ⟨b1, b2⟩ := am_idx h0 h1 hz
  have hy := q2 i.toNat (by omega)
  rw [hv] at hy
  refine W.aald ok.1 ok.2.1 q1 ((ok.2.2.2.2.2.2.2.2.2.2.2.2.2.2.1.2 kd _ (am_tys_at G kd hk8)).1 len wv) (am_ty_ref hk3 hk8) (fun z => by cases z) (by rw [arrV_size]; exact b1) (v := wv i.toNat) (by rw [b2]; exact arrV_read _ _ (by omega)) rfl rfl hd ?_
  exact kk ok ι H lr _ lc hr hl ⟨hy, ht2⟩
theorem am_C_uf {ι : am_Nm → Option Nat} {kd len i a : Nat} {f : Nat → am_AV} {wv : Nat → Value} {v : am_AV} {w : Value} {H1 : Heap} (e1 : H1[a]? = some (arrV (G.2.2.2.2.1 kd) len (updV wv i w))) (hq : ∀ j, j < len → am_V ι (f j) (wv j)) (hv : am_V ι v w) : am_C G ι (am_A kd len (am_uf f i v)) a H1 := by
  refine ⟨_, e1, fun j hj => ?_⟩
  by_cases ej : j = i
  · simpa [am_uf, updV, ej] using hv
  · simpa [am_uf, updV, ej] using hq j hj
theorem am_iast {nm : am_Nm} {len : Nat} {f : Nat → am_AV} {i x : Int} (hd : am_d Y.1 pc .iastore 1 q) (hh : h nm = some (am_A 0 len f)) (h0 : 0 ≤ i) (h1 : i < len) (hz : len < 2147483648) (kk : am_W G X Y d mc ms Q q ls st (am_up h nm (am_A 0 len (am_uf f i.toNat (am_I x)))) k n) : am_W G X Y d mc ms Q pc ls (am_I x :: am_I i :: am_R nm :: st) h k n := by
  obtain ⟨p, e, R, s, m, args, below, meth, c, ι0⟩ := X
  obtain ⟨hd, rfl⟩ := hd
  intro ok ι H lr sr lc hr hl ht
  obtain ⟨w, sr, rfl, hw, ht1⟩ := am_T_1 ht
  cases hw
  obtain ⟨w1, sr, rfl, hw1, ht2⟩ := am_T_1 ht1
  cases hw1
  obtain ⟨w2, sr, rfl, ⟨a, ha, rfl⟩, ht3⟩ := am_T_1 ht2
  obtain ⟨a', ha', wv, q1, q2⟩ := hr.1.1 nm _ hh
  cases ha.symm.trans ha'
  obtain ⟨b1, b2⟩ := am_idx h0 h1 hz
  refine W.iast ok.1 ok.2.1 q1 ((ok.2.2.2.2.2.2.2.2.2.2.2.2.2.2.1.2 0 _ (am_tys_at G 0 (by decide))).1 len wv) (fun z => by cases z) (by rw [arrV_size]; exact b1) rfl rfl hd fun H' e1 e2 e3 => ?_
  rw [b2, arrV_store] at e1
  rw [b2]
  exact kk ok ι H' lr sr _ (am_Rel_set hr hh ha e2 e3 (am_C_uf e1 q2 rfl)) hl ht3
theorem am_bast {nm : am_Nm} {len : Nat} {f : Nat → am_AV} {i x : Int} (hd : am_d Y.1 pc .bastore 1 q) (hh : h nm = some (am_A 1 len f)) (h0 : 0 ≤ i) (h1 : i < len) (hz : len < 2147483648) (hx : x = 0 ∨ x = 1) (kk : am_W G X Y d mc ms Q q ls st (am_up h nm (am_A 1 len (am_uf f i.toNat (am_I x)))) k n) : am_W G X Y d mc ms Q pc ls (am_I x :: am_I i :: am_R nm :: st) h k n := by
  obtain ⟨p, e, R, s, m, args, below, meth, c, ι0⟩ := X
  obtain ⟨hd, rfl⟩ := hd
  intro ok ι H lr sr lc hr hl ht
  obtain ⟨w, sr, rfl, hw, ht1⟩ := am_T_1 ht
  cases hw
  obtain ⟨w1, sr, rfl, hw1, ht2⟩ := am_T_1 ht1
  cases hw1
  obtain ⟨w2, sr, rfl, ⟨a, ha, rfl⟩, ht3⟩ := am_T_1 ht2
  obtain ⟨a', ha', wv, q1, q2⟩ := hr.1.1 nm _ hh
  cases ha.symm.trans ha'
  obtain ⟨b1, b2⟩ := am_idx h0 h1 hz
  have hn : narrow .boolean (.int (Int32.ofInt x)) = .int (Int32.ofInt x) := by rcases hx with rfl | rfl <;> decide +kernel
  refine W.zast ok.1 ok.2.1 q1 ((ok.2.2.2.2.2.2.2.2.2.2.2.2.2.2.1.2 1 _ (am_tys_at G 1 (by decide))).1 len wv) (fun z => by cases z) (by rw [arrV_size]; exact b1) rfl rfl hd fun H' e1 e2 e3 => ?_
  rw [b2, arrV_store, hn] at e1
  rw [b2]
  exact kk ok ι H' lr sr _ (am_Rel_set hr hh ha e2 e3 (am_C_uf e1 q2 rfl)) hl ht3
theorem am_last {nm : am_Nm} {len : Nat} {f : Nat → am_AV} {i x : Int} (hd : am_d Y.1 pc .lastore 1 q) (hh : h nm = some (am_A 2 len f)) (h0 : 0 ≤ i) (h1 : i < len) (hz : len < 2147483648) (kk : am_W G X Y d mc ms Q q ls st (am_up h nm (am_A 2 len (am_uf f i.toNat (am_J x)))) k n) : am_W G X Y d mc ms Q pc ls (am_J x :: am_I i :: am_R nm :: st) h k n := by
  obtain ⟨p, e, R, s, m, args, below, meth, c, ι0⟩ := X
  obtain ⟨hd, rfl⟩ := hd
  intro ok ι H lr sr lc hr hl ht
  obtain ⟨w, sr, rfl, hw, ht1⟩ := am_T_1 ht
  cases hw
  obtain ⟨w1, sr, rfl, hw1, ht2⟩ := am_T_1 ht1
  cases hw1
  obtain ⟨w2, sr, rfl, ⟨a, ha, rfl⟩, ht3⟩ := am_T_1 ht2
  obtain ⟨a', ha', wv, q1, q2⟩ := hr.1.1 nm _ hh
  cases ha.symm.trans ha'
  obtain ⟨b1, b2⟩ := am_idx h0 h1 hz
  refine W.last ok.1 ok.2.1 q1 ((ok.2.2.2.2.2.2.2.2.2.2.2.2.2.2.1.2 2 _ (am_tys_at G 2 (by decide))).1 len wv) (fun z => by cases z) (by rw [arrV_size]; exact b1) rfl rfl hd fun H' e1 e2 e3 => ?_
  rw [b2, arrV_store] at e1
  rw [b2]
  exact kk ok ι H' lr sr _ (am_Rel_set hr hh ha e2 e3 (am_C_uf e1 q2 rfl)) hl ht3
/-- the class of a kind of array's elements -/
def am_el (kd : Nat) : Nat := match kd with
  | 3 => 7 | 4 => 5 | 5 => 1 | 6 => 4 | _ => 2
theorem am_aast {nm y : am_Nm} {kd len : Nat} {f : Nat → am_AV} {fs : List am_AV} {i : Int} (hd : am_d Y.1 pc .aastore 1 q) (hh : h nm = some (am_A kd len f)) (hk3 : 3 ≤ kd) (hk8 : kd < 8) (h0 : 0 ≤ i) (h1 : i < len) (hz : len < 2147483648) (hy : h y = some (am_O (am_el kd) fs)) (kk : am_W G X Y d mc ms Q q ls st (am_up h nm (am_A kd len (am_uf f i.toNat (am_R y)))) k n) : am_W G X Y d mc ms Q pc ls (am_R y :: am_I i :: am_R nm :: st) h k n := by
  obtain ⟨p, e, R, s, m, args, below, meth, c, ι0⟩ := X
  obtain ⟨hd, rfl⟩ := hd
  intro ok ι H lr sr lc hr hl ht
  obtain ⟨w, sr, rfl, ⟨ay, hay, rfl⟩, ht1⟩ := am_T_1 ht
  obtain ⟨w1, sr, rfl, hw1, ht2⟩ := am_T_1 ht1
  cases hw1
  obtain ⟨w2, sr, rfl, ⟨a, ha, rfl⟩, ht3⟩ := am_T_1 ht2
  obtain ⟨a', ha', wv, q1, q2⟩ := hr.1.1 nm _ hh
  cases ha.symm.trans ha'
  obtain ⟨ay', hay', r, V, hr1, ⟨ceV, g1, g2, g3, -⟩, -⟩ := hr.1.1 y _ hy
  cases hay.symm.trans hay'
  obtain ⟨b1, b2⟩ := am_idx h0 h1 hz
  have hKa : va_K (G.2.2.1, G.2.2.2.1) vwCl (am_tys G) s := ok.2.2.2.2.2.2.2.2.2.2.2.2.2.2.1
  have hcls := (hKa.1 _ r hr1).2
  have hra : va_RA s (G.2.2.2.2.1 kd) (.object r.1) := by
    have h2 := (hKa.2 kd _ (am_tys_at G kd hk8)).2
    rcases (show kd = 3 ∨ kd = 4 ∨ kd = 5 ∨ kd = 6 ∨ kd = 7 by omega) with rfl | rfl | rfl | rfl | rfl <;> (cases hr1; exact h2)
  obtain ⟨kA, comp, k1, k2, k3, -⟩ := hra
  have hcomp : comp = G.2.2.1 (am_el kd) := Option.some.inj (k3.symm.trans hcls.1)
  subst hcomp
  obtain ⟨kC, hkC, -⟩ := id hcls.2
  refine W.aast ok.1 ok.2.1 q1 (fun q h => by cases h) (fun h => by cases h) k1 k2 rfl hkC ⟨fun z => b1 (Or.inl z), by rw [arrV_size, b2]; omega⟩ g1 (fun q h => by rw [g3] at h; cases h) (by rw [g2]; exact hkC) (by rw [g2]; exact va_assign hcls) rfl rfl hd fun H' e1 e2 e3 => ?_
  rw [b2, arrV_store] at e1
  rw [b2]
  exact kk ok ι H' lr sr _ (am_Rel_set hr hh ha e2 e3 (am_C_uf e1 q2 ⟨ay, hay, rfl⟩)) hl ht3
theorem am_Rel_new {ι : am_Nm → Option Nat} {H H1 : Heap} {nm : am_Nm} {c1 : am_AC} {lc : List Loc} (hG : G.2.2.2.2.2.1 < G.2.1.size) (hr : am_Rel G X ι h H lc) (hn : h nm = none) (hs : nm ≠ am_scr) (hz : H1.size = H.size + 1) (ho : ∀ b, b < H.size → H1[b]? = H[b]?) (hc : ∀ κ : am_Nm → Option Nat, am_le ι κ → κ nm = some H.size → am_C G κ c1 H.size H1) : ∃ κ : am_Nm → Option Nat, am_le ι κ ∧ κ nm = some H.size ∧ am_Rel G X κ (am_up h nm c1) H1 lc := by
  obtain ⟨p, e, R, s, m, args, below, meth, c, ι0⟩ := X
  obtain ⟨r1, r2, r3, r4, r5⟩ := hr
  obtain ⟨κ, k1, k2, k3⟩ := am_H_new r1 r2 hG hn hs hz ho hc
  exact ⟨κ, k1, k2, k3, ⟨by have := r2.1; omega, fun x hx => (ho x (Nat.lt_of_lt_of_le hx r2.1)).trans (r2.2 x hx)⟩, by omega, r4, am_le_tr r5 k1⟩
/-- a field's first value -/
def am_df (t : FieldType) : am_AV := match t with
  | .object _ => am_N
  | .array _ => am_N
  | _ => am_I 0
def am_dfs (ci N : Nat) : List am_AV := (List.range N).map fun j => am_df (am_fty ci j)
def am_okt (t : FieldType) : Bool := match t with
  | .int => true
  | .boolean => true
  | .object _ => true
  | .array _ => true
  | _ => false
theorem am_df_of {ι : am_Nm → Option Nat} {t : FieldType} (h : am_okt t = true) : am_V ι (am_df t) (defaultValue t) := by
  cases t <;> first | rfl | (exact absurd h (by decide))
theorem am_okts {ci : Nat} {r : vw_C} (h : vwCl[ci]? = some r) : ∀ j, j < r.2.2 → am_okt (am_fty ci j) = true := by
  match ci, h with
  | 0, h => cases h; decide +kernel
  | 1, h => cases h; decide +kernel
  | 2, h => cases h; decide +kernel
  | 3, h => cases h; decide +kernel
  | 4, h => cases h; decide +kernel
  | 5, h => cases h; decide +kernel
  | 6, h => cases h; decide +kernel
  | 7, h => cases h; decide +kernel
  | 8, h => cases h; decide +kernel
  | 9, h => cases h; decide +kernel
  | ci + 10, h => simp [vwCl] at h
/-- a class's link, for 'new' -/
def am_cl (own : String) (idx ci N : Nat) : Prop := ∃ r, vwCl[ci]? = some r ∧ r.2.2 = N ∧ Cond.classLink own idx r.1 ∈ am_uw ∧ Cond.instantiable r.1 N ∈ am_uw ∧ Cond.initialized r.1 ∈ am_uw
theorem am_new {idx ci N : Nat} (nm : am_Nm) (hd : am_d Y.1 pc (.new idx) 3 q) (hf : am_cl Y.2.2.1 idx ci N) (hn : h nm = none) (hs : nm ≠ am_scr) (hk : k + 1 ≤ mc) (hms : n + N ≤ ms) (kk : am_W G X Y d mc ms Q q ls (am_R nm :: st) (am_up h nm (am_O ci (am_dfs ci N))) (k + 1) (n + N)) : am_W G X Y d mc ms Q pc ls st h k n := by
  obtain ⟨p, e, R, s, m, args, below, meth, c, ι0⟩ := X
  obtain ⟨hd, rfl⟩ := hd
  intro ok ι H lr sr lc hr hl ht
  have ok' := ok
  obtain ⟨hx, hb, -, hown, hts, -, -, -, -, -, -, hRc, hRs, -, hK⟩ := ok
  obtain ⟨r, hr1, rfl, w1, w2, w3⟩ := hf
  obtain ⟨c1, c2, c3, c4⟩ := am_cls hr1
  have hKn := hK.1.1 ci _ hr1
  refine W.newcK hx hb hown (hts _ w1) (hts _ w2) (hts _ w3) rfl hd (by rw [hRc]; exact hk) (by rw [hRs]; exact hms) hKn.2.1 rfl fun H1 kC hkC e1 z1 o1 => ?_
  have hob := u_born (am_fty ci) hts c1 hKn hkC e1 c2
  obtain ⟨κ, k1, k2, k3⟩ := am_Rel_new (c1 := am_O ci (am_dfs ci r.2.2)) hK.2.2.2.2.2.2.2.1 hr hn hs z1 o1 (fun κ _ _ => ⟨r, _, hr1, hob, fun j v hj => by
    have hlt : j < r.2.2 := by
      have := (List.getElem?_eq_some_iff.mp hj).1
      simpa [am_dfs] using this
    simp only [am_dfs, List.getElem?_map, List.getElem?_range hlt, Option.map_some, Option.some.injEq] at hj
    subst hj
    exact am_df_of (am_okts hr1 j hlt)⟩)
  exact kk ok' κ H1 lr _ lc k3 (am_L_le k1 hl) ⟨⟨H.size, k2, rfl⟩, am_T_le k1 ht⟩
/-- new arrays of numbers -/
theorem am_newa {at9 : ArrayType} {kd : Nat} {len : Int} (nm : am_Nm) (hd : am_d Y.1 pc (.newarray at9) 2 q) (hty : newarray.typeOf at9 = am_ty kd) (hw : Cond.arrayClass (am_ty kd) ∈ am_uw) (hkd : kd < 3) (h0 : 0 ≤ len) (h1 : len ≤ 10000) (hn : h nm = none) (hs : nm ≠ am_scr) (hk : k + 1 ≤ mc) (hms : n + len.toNat ≤ ms) (kk : am_W G X Y d mc ms Q q ls (am_R nm :: st) (am_up h nm (am_A kd len.toNat (fun _ => if kd = 2 then am_J 0 else am_I 0))) (k + 1) (n + len.toNat)) : am_W G X Y d mc ms Q pc ls (am_I len :: st) h k n := by
  obtain ⟨p, e, R, s, m, args, below, meth, c, ι0⟩ := X
  obtain ⟨hd, rfl⟩ := hd
  intro ok ι H lr sr lc hr hl ht
  obtain ⟨w, sr, rfl, hw1, ht1⟩ := am_T_1 ht
  cases hw1
  have ok' := ok
  obtain ⟨hx, hb, -, hown, hts, -, -, -, -, -, -, hRc, hRs, -, hK⟩ := ok
  have hrl : am_r len := ⟨by omega, by omega⟩
  have hc : (Int32.ofInt len).toNatClampNeg = len.toNat := by show (Int32.ofInt len).toInt.toNat = len.toNat; rw [am_toInt hrl]
  have hneg : ¬ Int32.ofInt len < 0 := by rw [am_z, am_lt hrl am_r0]; omega
  refine va_newaK hx hb (by rw [hty]; exact hts _ hw) rfl hd rfl hneg hc ?_ (by rw [hRc]; exact hk) (by rw [hRs]; exact hms) rfl fun H1 cA e1 z1 o1 hAr hNm => ?_
  · rw [hty]
    rcases (show kd = 0 ∨ kd = 1 ∨ kd = 2 by omega) with rfl | rfl | rfl
    · show len.toNat * 4 ≤ _; omega
    · show len.toNat * 1 ≤ _; omega
    · show len.toNat * 8 ≤ _; omega
  have hcA : cA = G.2.2.2.2.1 kd := by
    have h2 := (hK.1.2 kd _ (am_tys_at G kd (by omega))).2
    rw [hty] at hNm
    rcases (show kd = 0 ∨ kd = 1 ∨ kd = 2 by omega) with rfl | rfl | rfl <;> exact Option.some.inj (hNm.symm.trans h2)
  subst hcA
  obtain ⟨κ, k1, k2, k3⟩ := am_Rel_new (c1 := am_A kd len.toNat (fun _ => if kd = 2 then am_J 0 else am_I 0)) hK.2.2.2.2.2.2.2.1 hr hn hs z1 o1 (fun κ _ _ => ⟨_, e1, fun j _ => by
    rw [hty]
    rcases (show kd = 0 ∨ kd = 1 ∨ kd = 2 by omega) with rfl | rfl | rfl <;> rfl⟩)
  exact kk ok' κ H1 lr _ lc k3 (am_L_le k1 hl) ⟨⟨H.size, k2, rfl⟩, am_T_le k1 ht1⟩
/-- new arrays of references -/
theorem am_anewa {idx kd : Nat} {C : String} {len : Int} (nm : am_Nm) (hd : am_d Y.1 pc (.anewarray idx) 3 q) (hty : am_ty kd = .object C) (hw : Cond.classLink Y.2.2.1 idx C ∈ am_uw) (hov : Cond.arrayOver (.object C) ∈ lw_tbl) (hkd : kd < 8) (h0 : 0 ≤ len) (h1 : len ≤ 10000) (hn : h nm = none) (hs : nm ≠ am_scr) (hk : k + 1 ≤ mc) (hms : n + len.toNat ≤ ms) (kk : am_W G X Y d mc ms Q q ls (am_R nm :: st) (am_up h nm (am_A kd len.toNat (fun _ => am_N))) (k + 1) (n + len.toNat)) : am_W G X Y d mc ms Q pc ls (am_I len :: st) h k n := by
  obtain ⟨p, e, R, s, m, args, below, meth, c, ι0⟩ := X
  obtain ⟨hd, rfl⟩ := hd
  intro ok ι H lr sr lc hr hl ht
  obtain ⟨w, sr, rfl, hw1, ht1⟩ := am_T_1 ht
  cases hw1
  have ok' := ok
  obtain ⟨hx, hb, -, hown, hts, -, -, -, -, -, -, hRc, hRs, -, hK⟩ := ok
  have hrl : am_r len := ⟨by omega, by omega⟩
  have hc : (Int32.ofInt len).toNatClampNeg = len.toNat := by show (Int32.ofInt len).toInt.toNat = len.toNat; rw [am_toInt hrl]
  have hneg : ¬ Int32.ofInt len < 0 := by rw [am_z, am_lt hrl am_r0]; omega
  refine W.anew hx hb hown (hts _ hw) (hK.2.2.2.2.1 C hov).use rfl hd rfl hneg (by rw [hc]; omega) (by rw [hRc]; exact hk) (by rw [hRs, hc]; exact hms) fun cA kA comp g1 g2 g3 g4 => ?_
  have hcA : cA = G.2.2.2.2.1 kd := by
    have h2 := (hK.1.2 kd _ (am_tys_at G kd hkd)).2
    rw [hty] at h2
    obtain ⟨kA', comp', x1, x2, x3, x4⟩ := h2
    exact Option.some.inj (g1.symm.trans x4)
  subst hcA
  rw [hc]
  obtain ⟨κ, k1, k2, k3⟩ := am_Rel_new (c1 := am_A kd len.toNat (fun _ => am_N)) (H1 := H.push { cls := G.2.2.2.2.1 kd, slots := Array.replicate len.toNat .null, vm := .none }) hK.2.2.2.2.2.2.2.1 hr hn hs (by simp) (fun b hb => by simp [Array.getElem?_push, Nat.ne_of_lt hb]) (fun κ _ _ => ⟨fun _ => .null, by
    rw [← arrV_new]; simp, fun j _ => rfl⟩)
  exact kk ok' κ _ lr _ lc k3 (am_L_le k1 hl) ⟨⟨H.size, k2, rfl⟩, am_T_le k1 ht1⟩
end AmHeap
end
section
/-! contracts, calls, throws, returns -/
/-- a result: a value or nothing; or an exception's number -/
abbrev am_Re : Type := Option am_AV ⊕ Nat
def am_VO (κ : am_Nm → Option Nat) (r : Option am_AV) (w : Option Value) : Prop := match r, w with
  | none, none => True
  | some v, some w => am_V κ v w
  | _, _ => False
def am_Pc (G : am_G) (ι : am_Nm → Option Nat) (av : List Value) (h : am_AH) : Array Value → State → Prop := fun a U => a = av.toArray ∧ am_H G ι h U.heap ∧ am_old G U.heap ∧ am_K G U
def am_Qc (G : am_G) (ι : am_Nm → Option Nat) (Q : am_Re → am_AH → Prop) : Array Value → State → Outcome → State → Prop := fun _ st o t => ∃ (r : Option am_AV) (w : Option Value) (κ : am_Nm → Option Nat) (h' : am_AH), o = .returned w ∧ am_VO κ r w ∧ am_le ι κ ∧ am_H G κ h' t.heap ∧ am_old G t.heap ∧ st.heap.size ≤ t.heap.size ∧ Q (.inl r) h'
def am_XC (G : am_G) (ι : am_Nm → Option Nat) (Q : am_Re → am_AH → Prop) : String → State → State → Prop := fun E st t => ∃ (x : Nat) (κ : am_Nm → Option Nat) (h' : am_AH), E = am_ex x ∧ am_le ι κ ∧ am_H G κ h' t.heap ∧ am_old G t.heap ∧ st.heap.size ≤ t.heap.size ∧ Q (.inr x) h'
/-- a method's contract: from a heap h and arguments, what it answers or throws, and the heap then; depth, cells and slots of room -/
def am_Con (G : am_G) (y : MethodName) (w0 : Cond) (d mc ms : Nat) (as : List am_AV) (h : am_AH) (Q : am_Re → am_AH → Prop) : Prop :=
  ∀ (ι : am_Nm → Option Nat) (av : List Value), am_T ι as av → vx_Met G.1 y (w0 :: am_uw) (am_rm d mc ms) (am_Pc G ι av h) (am_Qc G ι Q) (am_XC G ι Q) mc ms (am_free G)
def am_end (G : am_G) (X : am_X) (mc ms : Nat) (Q : am_Re → am_AH → Prop) : State → Prop := match X with
  | (_, _, _, s, _, args, below, _, _, ι0) => vx_MQ below (am_Qc G ι0 Q) (am_XC G ι0 Q) args s mc ms (am_free G)
theorem am_Con_mono {G : am_G} {y : MethodName} {w0 : Cond} {d mc ms : Nat} {as : List am_AV} {h : am_AH} {Q Q' : am_Re → am_AH → Prop} (hC : am_Con G y w0 d mc ms as h Q) (hq : ∀ r h', Q r h' → Q' r h') : am_Con G y w0 d mc ms as h Q' := by
  intro ι av ht
  have hM := hC ι av ht
  intro p e ha hc hk s m a below hf happ hP hK
  obtain ⟨n, o, g1, g2, g3, hz⟩ := hM p e ha hc hk s m a below hf happ hP hK
  refine ⟨n, o, g1, g2, g3, ?_⟩
  rcases hz with ⟨⟨r, w, κ, h', z1, z2, z3, z4, z5, z6, z7⟩, z8⟩ | ⟨q, z1, E, ce, L, ⟨x, κ, h', y1, y2, y3, y4, y5, y6⟩, z2⟩
  · exact Or.inl ⟨⟨r, w, κ, h', z1, z2, z3, z4, z5, z6, hq _ _ z7⟩, z8⟩
  · exact Or.inr ⟨q, z1, E, ce, L, ⟨x, κ, h', y1, y2, y3, y4, y5, hq _ _ y6⟩, z2⟩
theorem am_blind {G : am_G} {ι : am_Nm → Option Nat} {av : List Value} {h : am_AH} : FrameBlind (am_Pc G ι av h) := fun _ U g mk q => ⟨q.1, q.2.1, q.2.2.1, am_K_same (s := U) (U := U.calling g mk _) rfl q.2.2.2⟩
def am_nolong (v : am_AV) : Bool := match v with
  | .inr (.inl _) => false
  | _ => true
theorem am_cat {ι : am_Nm → Option Nat} {v : am_AV} {w : Value} (hv : am_V ι v w) (hn : am_nolong v = true) : w.category = 1 := by
  match v, hv, hn with
  | .inl x, hv, _ => cases hv; rfl
  | .inr (.inr none), hv, _ => cases hv; rfl
  | .inr (.inr (some y)), hv, _ => obtain ⟨a, -, rfl⟩ := hv; rfl
  | .inr (.inl x), _, hn => simp [am_nolong] at hn
theorem am_T_len {ι : am_Nm → Option Nat} : ∀ {vs : List am_AV} {ws : List Value}, am_T ι vs ws → ws.length = vs.length
  | [], [], _ => rfl
  | _ :: _, _ :: _, ⟨_, b⟩ => by simp [am_T_len b]
  | [], _ :: _, q => q.elim
  | _ :: _, [], q => q.elim
theorem am_T_at {ι : am_Nm → Option Nat} : ∀ {vs : List am_AV} {ws : List Value}, am_T ι vs ws → ∀ (i : Nat) (v : am_AV), vs[i]? = some v → ∃ w, ws[i]? = some w ∧ am_V ι v w
  | [], [], _, i, v, h => by simp at h
  | _ :: _, w :: _, ⟨a, b⟩, 0, v, h => by simp at h; subst h; exact ⟨w, rfl, a⟩
  | _ :: _, _ :: _, ⟨_, b⟩, i + 1, v, h => by simpa using am_T_at b i v (by simpa using h)
  | [], _ :: _, q, _, _, _ => q.elim
  | _ :: _, [], q, _, _, _ => q.elim
theorem am_sl : ∀ {vs : List Value}, (∀ v ∈ vs, v.category = 1) → lg_sl vs = vs.map Slot.val
  | [], _ => rfl
  | v :: vs, h => by
    have h1 := h v List.mem_cons_self
    have h2 := am_sl (vs := vs) fun w hw => h w (List.mem_cons_of_mem _ hw)
    simp only [lg_sl, List.flatMap_cons, h1] at h2 ⊢
    simp [h2]
theorem am_L_entry {ι : am_Nm → Option Nat} {as : List am_AV} {av : List Value} {nL : Nat} (ht : am_T ι as av) (hn : ∀ v ∈ as, am_nolong v = true) (hl : as.length ≤ nL) :
    am_L nL ι (as.map some ++ List.replicate (nL - as.length) none) ((lg_sl av ++ List.replicate (nL - (lg_sl av).length) Slot.unset).toArray) := by
  have hc : ∀ w ∈ av, w.category = 1 := by
    intro w hw
    obtain ⟨i, hi⟩ := List.getElem?_of_mem hw
    have hlt : i < as.length := by
      have := (List.getElem?_eq_some_iff.mp hi).1
      rw [am_T_len ht] at this
      exact this
    obtain ⟨w', h1, h2⟩ := am_T_at ht i as[i] (List.getElem?_eq_getElem hlt)
    rw [hi] at h1
    cases h1
    exact am_cat h2 (hn _ (List.getElem_mem hlt))
  have hlen : (lg_sl av).length = as.length := by rw [am_sl hc, List.length_map, am_T_len ht]
  have he := lv_entry av (n := nL) (by rw [hlen]; exact hl)
  refine ⟨he.1, he.2.1, by simp; omega, fun i v hi => ?_⟩
  by_cases hlt : i < as.length
  · rw [List.getElem?_append_left (by simpa using hlt), List.getElem?_map] at hi
    obtain ⟨v', h1, h2⟩ := Option.map_eq_some_iff.mp hi
    cases h2
    obtain ⟨w, h3, h4⟩ := am_T_at ht i v h1
    refine ⟨w, ?_, h4, hc w (List.mem_of_getElem? h3)⟩
    rw [List.getElem?_toArray, am_sl hc, List.getElem?_append_left (by simpa [am_T_len ht] using hlt), List.getElem?_map, h3]
    rfl
  · rw [List.getElem?_append_right (by simpa using hlt)] at hi
    have := List.mem_of_getElem? hi
    simp at this
theorem am_of {G : am_G} {y : MethodName} {Y : am_Y} {d mc ms : Nat} {as : List am_AV} {h : am_AH} {Q : am_Re → am_AH → Prop} (hy : plainName y.cls = true) (hown : Y.2.2.1 = y.cls) (hini : Y.2.2.2.2.1 = true → y.name = "<init>") (hhh : Y.2.2.2.2.2 = []) (hn : ∀ v ∈ as, am_nolong v = true) (hl : as.length ≤ Y.2.1)
    (body : ∀ X : am_X, am_W G X Y d mc ms (am_end G X mc ms Q) 0 (as.map some ++ List.replicate (Y.2.1 - as.length) none) [] h 0 0) : am_Con G y (.code y Y.1 Y.2.1 Y.2.2.2.1) d mc ms as h Q := by
  intro ι av ht
  refine vx_ofW hy rfl ?_
  intro p e s m args below meth c s₁ B hml hT hP
  obtain ⟨rfl, hH, hold, hK⟩ := hP
  have hw := atoms_spec (ws := Cond.code y Y.1 Y.2.1 Y.2.2.2.1 :: am_uw) B.pre
  rw [lg_entry_eq]
  refine body (p, e, _, s, m, av.toArray, below, meth, c, ι) ⟨B.exec, B.bytes, hml, ?_, fun w hw' => hw w (List.mem_cons_of_mem _ hw'), B.notSynchronized, B.returns, fun z => (name_of_methodNamed B.named B.method).1.trans (hini z), ?_, rfl, Nat.le_refl _, rfl, rfl, hold, hK⟩ ι s.heap _ [] [] ⟨hH, hold, Nat.le_refl _, fun z hz => (by cases hz), am_le_rf⟩ (am_L_entry ht hn hl) trivial
  · rw [hown]; exact findClass_of_methodNamed B.named
  · rw [hhh]
    cases ht9 : c.exceptionTable.toList with
    | nil => rfl
    | cons x xs => exact (hT x (by rw [ht9]; exact List.mem_cons_self)).elim
theorem am_ofH {G : am_G} {y : MethodName} {Y : am_Y} {d mc ms : Nat} {as : List am_AV} {h : am_AH} {Q : am_Re → am_AH → Prop} (hy : plainName y.cls = true) (hown : Y.2.2.1 = y.cls) (hini : Y.2.2.2.2.1 = true → y.name = "<init>") (hn : ∀ v ∈ as, am_nolong v = true) (hl : as.length ≤ Y.2.1)
    (body : ∀ X : am_X, am_W G X Y d mc ms (am_end G X mc ms Q) 0 (as.map some ++ List.replicate (Y.2.1 - as.length) none) [] h 0 0) : am_Con G y (.codeWith y Y.1 Y.2.1 Y.2.2.2.1 Y.2.2.2.2.2) d mc ms as h Q := by
  intro ι av ht
  refine vx_ofWH hy rfl ?_
  intro p e s m args below meth c s₁ B hml hP
  obtain ⟨rfl, hH, hold, hK⟩ := hP
  have hw := atoms_spec (ws := Cond.codeWith y Y.1 Y.2.1 Y.2.2.2.1 Y.2.2.2.2.2 :: am_uw) B.pre
  rw [lg_entry_eq]
  refine body (p, e, _, s, m, av.toArray, below, meth, c, ι) ⟨B.exec, B.bytes, hml, ?_, fun w hw' => hw w (List.mem_cons_of_mem _ hw'), B.notSynchronized, B.returns, fun z => (name_of_methodNamed B.named B.method).1.trans (hini z), vx_table (x := y) B (hw _ List.mem_cons_self), rfl, Nat.le_refl _, rfl, rfl, hold, hK⟩ ι s.heap _ [] [] ⟨hH, hold, Nat.le_refl _, fun z hz => (by cases hz), am_le_rf⟩ (am_L_entry ht hn hl) trivial
  rw [hown]; exact findClass_of_methodNamed B.named
section AmEnds
variable {G : am_G} {X : am_X} {Y : am_Y} {d mc ms : Nat} {Q : am_Re → am_AH → Prop} {Qs : State → Prop} {pc q t : Nat} {ls : List (Option am_AV)} {st : List am_AV} {h : am_AH} {k n : Nat}
theorem am_ireturn {x : Int} {ty : FieldType} (hd : am_d Y.1 pc .ireturn 1 q) (hret : Y.2.2.2.1 = some ty) (hty : am_fit ty (am_I x)) (hk : k ≤ mc) (hn : n ≤ ms) (hq : Q (.inl (some (am_I x))) h) : am_W G X Y d mc ms (am_end G X mc ms Q) pc ls [am_I x] h k n := by
  obtain ⟨p, e, R, s, m, args, below, meth, c, ι0⟩ := X
  obtain ⟨hd, rfl⟩ := hd
  intro ok ι H lr sr lc hr hl ht
  obtain ⟨w, sr, rfl, hw, ht1⟩ := am_T_1 ht
  have hw' := hw
  cases hw
  cases sr with
  | cons a b => exact ht1.elim
  | nil =>
  obtain ⟨hx, hb, -, hown, hts, hlk, hre, -⟩ := ok
  refine W.widen hk hn (vx_ret ?_)
  exact W.zret hx hb (hre.trans hret) (am_fit_of hty hw').1 (fun t hT hW => ⟨some (am_I x), _, ι, h, rfl, rfl, hr.2.2.2.2, by rw [hT]; exact hr.1, by rw [hT]; exact hr.2.1, by rw [hT]; exact hr.2.2.1, hq⟩) hr.2.2.2.1 hd hlk
theorem am_areturn {x : Option am_Nm} {C : String} (hd : am_d Y.1 pc .areturn 1 q) (hret : Y.2.2.2.1 = some (.object C)) (hk : k ≤ mc) (hn : n ≤ ms) (hq : Q (.inl (some (Sum.inr (Sum.inr x)))) h) : am_W G X Y d mc ms (am_end G X mc ms Q) pc ls [Sum.inr (Sum.inr x)] h k n := by
  obtain ⟨p, e, R, s, m, args, below, meth, c, ι0⟩ := X
  obtain ⟨hd, rfl⟩ := hd
  intro ok ι H lr sr lc hr hl ht
  obtain ⟨w, sr, rfl, hw, ht1⟩ := am_T_1 ht
  cases sr with
  | cons a b => exact ht1.elim
  | nil =>
  obtain ⟨hx, hb, -, hown, hts, hlk, hre, -⟩ := ok
  refine W.widen hk hn (vx_ret ?_)
  refine W.aret hx hb (hre.trans hret) (Or.inl ⟨_, rfl⟩) ?_ (fun t hT hW => ⟨some (Sum.inr (Sum.inr x)), _, ι, h, rfl, hw, hr.2.2.2.2, by rw [hT]; exact hr.1, by rw [hT]; exact hr.2.1, by rw [hT]; exact hr.2.2.1, hq⟩) hr.2.2.2.1 hd hlk
  cases x with
  | none => exact Or.inl hw
  | some z => obtain ⟨a, -, rfl⟩ := hw; exact Or.inr ⟨a, rfl⟩
theorem am_return (hd : am_d Y.1 pc .return_ 1 q) (hret : Y.2.2.2.1 = none) (hk : k ≤ mc) (hn : n ≤ ms) (hq : Q (.inl none) h) : am_W G X Y d mc ms (am_end G X mc ms Q) pc ls [] h k n := by
  obtain ⟨p, e, R, s, m, args, below, meth, c, ι0⟩ := X
  obtain ⟨hd, rfl⟩ := hd
  intro ok ι H lr sr lc hr hl ht
  cases sr with
  | cons a b => exact ht.elim
  | nil =>
  obtain ⟨hx, hb, -, hown, hts, hlk, hre, -⟩ := ok
  refine W.widen hk hn (vx_ret ?_)
  exact W.vret hx hb (hre.trans hret) (fun t hT hW => ⟨none, _, ι, h, rfl, trivial, hr.2.2.2.2, by rw [hT]; exact hr.1, by rw [hT]; exact hr.2.1, by rw [hT]; exact hr.2.2.1, hq⟩) hr.2.2.2.1 hd hlk
/-- thrown here, and what becomes of it -/
def am_WX (G : am_G) (X : am_X) (Y : am_Y) (d mc ms : Nat) (Qs : State → Prop) (pc : Nat) (ls : List (Option am_AV)) (h : am_AH) (k n x : Nat) : Prop := match X with
  | (p, e, R, s, m, args, below, meth, c, ι0) => am_ok G (p, e, R, s, m, args, below, meth, c, ι0) Y d mc ms → ∀ (ι : am_Nm → Option Nat) (H : Heap) (lr : Array Slot) (sr : List Value) (lc : List Loc) (q : Addr) (ce : Cell), am_Rel G (p, e, R, s, m, args, below, meth, c, ι0) ι h H lc → am_L Y.2.1 ι ls lr → H[q]? = some ce → ce.vm = .none → s.vm.findClass (am_ex x) = some ce.cls → vx_W p G.1 e R s m args below meth c H lc k n Qs (F0 m pc lr sr) q
theorem am_out {x : Nat} (hh : Y.2.2.2.2.2 = []) (hk : k ≤ mc) (hn : n ≤ ms) (hq : Q (.inr x) h) : am_WX G X Y d mc ms (am_end G X mc ms Q) pc ls h k n x := by
  obtain ⟨p, e, R, s, m, args, below, meth, c, ι0⟩ := X
  intro ok ι H lr sr lc q ce hr hl h1 h2 h3
  have htb : c.exceptionTable.toList = tableOf Y.2.2.2.2.2 := ok.2.2.2.2.2.2.2.2.1
  refine vx_out (fun z hz => ?_) ok.2.2.2.2.2.1 h1 h2 h3 (fun t hT _ => ⟨x, ι, h, rfl, hr.2.2.2.2, by rw [hT]; exact hr.1, by rw [hT]; exact hr.2.1, by rw [hT]; exact hr.2.2.1, hq⟩) hr.2.2.2.1 hk hn
  rw [htb, hh] at hz
  cases hz
theorem am_H_ext {ι : am_Nm → Option Nat} {H H1 : Heap} (q : am_H G ι h H) (hold : am_old G H) (hsb : G.2.2.2.2.2.1 < G.2.1.size) (hz : H.size ≤ H1.size) (ho : ∀ b, b < H.size → H1[b]? = H[b]?) : am_H G ι h H1 ∧ am_old G H1 := by
  obtain ⟨q1, q2, q3, q4, q5⟩ := q
  refine ⟨⟨fun x c hx => ?_, fun x a hx => ?_, q3, q4, q5⟩, Nat.le_trans hold.1 hz, fun x hx => (ho x (Nat.lt_of_lt_of_le hx hold.1)).trans (hold.2 x hx)⟩
  · obtain ⟨a, h1, h2⟩ := q1 x c hx
    exact ⟨a, h1, am_C_le am_le_rf (ho a (am_C_lt h2)) h2⟩
  · rcases q2 x a hx with z | ⟨z1, z2, z3, z4⟩
    · exact Or.inl z
    · exact Or.inr ⟨z1, z2, by omega, z4⟩
/-- the words of a throw, by the pool's numbers of the class and its constructor -/
def am_thr (own : String) (ik ic x : Nat) : Prop := Cond.classLink own ik (am_ex x) ∈ am_uw ∧ Cond.initialized (am_ex x) ∈ am_uw ∧ (∀ w ∈ vx_atS own ic (am_ex x) ["java/lang/RuntimeException", "java/lang/Exception"], w ∈ am_uw ∨ (w ∈ lw_tbl ∧ am_mv w = true)) ∧ (∀ w ∈ Cond.classLink own ik (am_ex x) :: Cond.initialized (am_ex x) :: vx_atS own ic (am_ex x) ["java/lang/RuntimeException", "java/lang/Exception"], vx_ot w = true) ∧ Bundle.fit (am_ex x) = true
theorem am_mvt {w : Cond} (h : am_mv w = true) : w.onTables = true := by
  cases w <;> first | rfl | (exact absurd h (by simp [am_mv]))
theorem am_thr_at {own : String} {ik ic x : Nat} (h : am_thr own ik ic x) {s : State} {args : Array Value} (hts : ∀ w ∈ am_uw, w.before args s = true) (hmv : ∀ w ∈ lw_tbl, am_mv w = true → va_Nw w s) : ∀ w ∈ vx_atS own ic (am_ex x) ["java/lang/RuntimeException", "java/lang/Exception"], w.before args s = true := by
  intro w hw
  rcases h.2.2.1 w hw with z | ⟨z1, z2⟩
  · exact hts w z
  · exact va_Nw.use (am_mvt z2) (hmv w z1 z2)
theorem am_sum8 (ι : am_Nm → Option Nat) : ∀ {vs : List am_AV} {ws : List Value}, am_T ι vs ws → vs.length ≤ 4 → (ws.map fun v => v.category).sum ≤ 8 := by
  have key : ∀ {vs : List am_AV} {ws : List Value}, am_T ι vs ws → (ws.map fun v => v.category).sum ≤ 2 * vs.length := by
    intro vs
    induction vs with
    | nil =>
      intro ws ht
      cases ws with
      | nil => exact Nat.le_refl _
      | cons a b => exact ht.elim
    | cons v vs ih =>
      intro ws ht
      obtain ⟨w, ws, rfl, h1, h2⟩ := am_T_1 ht
      have := ih h2
      have h3 : w.category ≤ 2 := by rcases lv_cat w with z | z <;> omega
      simp only [List.map_cons, List.sum_cons, List.length_cons]
      omega
  intro vs ws ht hl
  have := key ht
  omega
theorem am_throw {ik is ic x q0 q1 q2 q3 q4 : Nat} {tx : String} (hth : am_thr Y.2.2.1 ik ic x) (hown : Y.2.2.1 = RX8) (htx : Cond.stringRef RX8 is tx ∈ lw_tbl) (hd6 : 6 ≤ d) (hh : Y.2.2.2.2.2 = []) (hst : st.length ≤ 4)
    (d0 : am_d Y.1 pc (.new ik) 3 q0) (d3 : am_d Y.1 q0 .dup 1 q1) (d4 : am_d Y.1 q1 (.ldc is) 2 q2) (d6 : am_d Y.1 q2 (.invokespecial ic) 3 q3) (d9 : am_d Y.1 q3 .athrow 1 q4) (hk : k + 1 ≤ mc) (hn : n + 6 ≤ ms) (hq : Q (.inr x) h) : am_W G X Y d mc ms (am_end G X mc ms Q) pc ls st h k n := by
  obtain ⟨p, e, R, s, m, args, below, meth, c, ι0⟩ := X
  obtain ⟨d0, rfl⟩ := d0
  obtain ⟨d3, rfl⟩ := d3
  obtain ⟨d4, rfl⟩ := d4
  obtain ⟨d6, rfl⟩ := d6
  obtain ⟨d9, rfl⟩ := d9
  intro ok ι H lr sr lc hr hl ht
  obtain ⟨hx, hb, hml, ho, hts, hlk, hre, -, htb, hRf, hRl, hRc, hRs, hold, hK⟩ := ok
  obtain ⟨hKa, ⟨hU, hN⟩, hmv, hstr, -, -, -, hsb, htr⟩ := hK
  obtain ⟨sa, hsa⟩ := hstr is tx htx
  have hAs : ∀ a : Nat, a < G.2.1.size → ¬ am_free G a → s.heap[a]? = G.2.1[a]? := fun a ha _ => hold.2 a ha
  have hsum := am_sum8 ι ht hst
  refine vx_throwS (A := am_free G) hx hb htr ho hth.2.2.2.2 (by decide +kernel) (hts _ hth.1) (hts _ hth.2.1) (by rw [hown]; exact hsa) (am_thr_at hth hts hmv) hth.2.2.2.1 (hU.kept hAs) (hN.kept hAs) ⟨hr.2.2.1, fun a ha hf => ?_, hr.2.2.2.1⟩ (by rw [hl.1, hml]) d0 d3 d4 d6 d9 (fun z hz => ?_) (by rw [hRf]; show 2 + 3 < d; omega) (by show _ + (13 * (2 + 1) + 43) ≤ _; omega) (by rw [hRc]; exact hk) (by rw [hRs]; exact hn) hlk ?_ hr.2.2.2.1 hk hn
  · have ha2 : a < G.2.1.size := by
      by_cases z : a < G.2.1.size
      · exact z
      · exact absurd (show G.2.1.size ≤ a by omega) hf
    rw [hr.2.1.2 a ha2, hold.2 a ha2]
  · rw [htb, hh] at hz
    cases hz
  · intro t hA hz ho
    obtain ⟨g1, g2⟩ := am_H_ext hr.1 hr.2.1 hsb hz ho
    exact ⟨x, ι, h, rfl, hr.2.2.2.2, g1, g2, Nat.le_trans hr.2.2.1 hz, hq⟩
theorem am_throwW {ik is ic x q0 q1 q2 q3 q4 : Nat} {tx : String} (hth : am_thr Y.2.2.1 ik ic x) (hown : Y.2.2.1 = RX8) (htx : Cond.stringRef RX8 is tx ∈ lw_tbl) (hd6 : 6 ≤ d) (hh : Y.2.2.2.2.2 = []) (hst : st.length ≤ 4)
    (d0 : am_d Y.1 pc (.new ik) 3 q0) (d3 : am_d Y.1 q0 .dup 1 q1) (d4 : am_d Y.1 q1 (.ldc_w is) 3 q2) (d6 : am_d Y.1 q2 (.invokespecial ic) 3 q3) (d9 : am_d Y.1 q3 .athrow 1 q4) (hk : k + 1 ≤ mc) (hn : n + 6 ≤ ms) (hq : Q (.inr x) h) : am_W G X Y d mc ms (am_end G X mc ms Q) pc ls st h k n := by
  obtain ⟨p, e, R, s, m, args, below, meth, c, ι0⟩ := X
  obtain ⟨d0, rfl⟩ := d0
  obtain ⟨d3, rfl⟩ := d3
  obtain ⟨d4, rfl⟩ := d4
  obtain ⟨d6, rfl⟩ := d6
  obtain ⟨d9, rfl⟩ := d9
  intro ok ι H lr sr lc hr hl ht
  obtain ⟨hx, hb, hml, ho, hts, hlk, hre, -, htb, hRf, hRl, hRc, hRs, hold, hK⟩ := ok
  obtain ⟨hKa, ⟨hU, hN⟩, hmv, hstr, -, -, -, hsb, htr⟩ := hK
  obtain ⟨sa, hsa⟩ := hstr is tx htx
  have hAs : ∀ a : Nat, a < G.2.1.size → ¬ am_free G a → s.heap[a]? = G.2.1[a]? := fun a ha _ => hold.2 a ha
  have hsum := am_sum8 ι ht hst
  refine vx_throwSW (A := am_free G) hx hb htr ho hth.2.2.2.2 (by decide +kernel) (hts _ hth.1) (hts _ hth.2.1) (by rw [hown]; exact hsa) (am_thr_at hth hts hmv) hth.2.2.2.1 (hU.kept hAs) (hN.kept hAs) ⟨hr.2.2.1, fun a ha hf => ?_, hr.2.2.2.1⟩ (by rw [hl.1, hml]) d0 d3 d4 d6 d9 (fun z hz => ?_) (by rw [hRf]; show 2 + 3 < d; omega) (by show _ + (13 * (2 + 1) + 43) ≤ _; omega) (by rw [hRc]; exact hk) (by rw [hRs]; exact hn) hlk ?_ hr.2.2.2.1 hk hn
  · have ha2 : a < G.2.1.size := by
      by_cases z : a < G.2.1.size
      · exact z
      · exact absurd (show G.2.1.size ≤ a by omega) hf
    rw [hr.2.1.2 a ha2, hold.2 a ha2]
  · rw [htb, hh] at hz
    cases hz
  · intro t hA hz ho
    obtain ⟨g1, g2⟩ := am_H_ext hr.1 hr.2.1 hsb hz ho
    exact ⟨x, ι, h, rfl, hr.2.2.2.2, g1, g2, Nat.le_trans hr.2.2.1 hz, hq⟩
/-- behind a call -/
theorem am_run {p : Program} {e : Env} {R : Room} {s : State} {m : MethodId} {args : Array Value} {below : List Frame} {meth : Method} {c : Code} {ι0 ι : am_Nm → Option Nat} {H : Heap} {lr : Array Slot} {sr0 sr : List Value} {lc : List Loc} {mc' ms' : Nat} {a9 : Array Value} {Q' : am_Re → am_AH → Prop}
    (ok : am_ok G (p, e, R, s, m, args, below, meth, c, ι0) Y d mc ms) (hrun : vx_Run p G.1 e R s m args below meth c H lc k n mc' ms' (F0 m pc lr sr0) sr (am_Qc G ι Q' a9) (am_XC G ι Q') (am_free G))
    (hr : am_Rel G (p, e, R, s, m, args, below, meth, c, ι0) ι h H lc) (hl : am_L Y.2.1 ι ls lr) (ht : am_T ι st sr)
    (kk : ∀ r h', Q' (.inl r) h' → am_W G (p, e, R, s, m, args, below, meth, c, ι0) Y d mc ms Qs (pc + 3) ls (r.toList ++ st) h' (k + mc') (n + ms'))
    (kx : ∀ x h', Q' (.inr x) h' → am_WX G (p, e, R, s, m, args, below, meth, c, ι0) Y d mc ms Qs pc ls h' (k + mc') (n + ms') x) : W p G.1 e R s m args below meth c H lc k n Qs (F0 m pc lr sr0) := by
  intro T hT XX
  rcases hrun T hT XX with ⟨v, st₀, t, T', L, h0, X', hL, e1, e2, ⟨r, w, κ, h', z1, z2, z3, z4, z5, z6, z7⟩, go⟩ | ⟨q, st₀, t, T', L, E, ce, h0, X', hL, e1, e2, ⟨x, κ, h', y1, y2, y3, y4, y5, y6⟩, hce, hcv, hcl, go⟩
  · cases z1
    have hrel : am_Rel G (p, e, R, s, m, args, below, meth, c, ι0) κ h' T'.heap (lc ++ L) := ⟨by rw [e1]; exact z4, by rw [e1]; exact z5, by rw [e1]; rw [h0] at z6; exact Nat.le_trans hr.2.2.1 z6, fun z hz => (List.mem_append.mp hz).elim (hr.2.2.2.1 z) (hL z), am_le_tr hr.2.2.2.2 z3⟩
    have hst : am_T κ (r.toList ++ st) (v.toList ++ sr) := by
      match r, v, z2 with
      | none, none, _ => exact am_T_le z3 ht
      | some r, some w, z2 => exact ⟨z2, am_T_le z3 ht⟩
    obtain ⟨t2, a1, b1⟩ := kk r h' z7 ok κ T'.heap lr _ _ hrel (am_L_le z3 hl) hst T' rfl X'
    exact ⟨t2, go t2 a1, b1⟩
  · subst y1
    have hrel : am_Rel G (p, e, R, s, m, args, below, meth, c, ι0) κ h' T'.heap (lc ++ L) := ⟨by rw [e1]; exact y3, by rw [e1]; exact y4, by rw [e1]; rw [h0] at y5; exact Nat.le_trans hr.2.2.1 y5, fun z hz => (List.mem_append.mp hz).elim (hr.2.2.2.1 z) (hL z), am_le_tr hr.2.2.2.2 y2⟩
    obtain ⟨t2, a1, b1⟩ := kx x h' y6 ok κ T'.heap lr sr _ q ce hrel (am_L_le y2 hl) (by rw [e1]; exact hce) hcv hcl T' rfl X'
    exact ⟨t2, go.trans a1, b1⟩
/-- a callee's words at a call: number of arguments -/
def am_nar (y : MethodName) (na : Nat) : Prop := (y.cls ≠ "java/lang/invoke/MethodHandle" ∧ y.cls ≠ "java/lang/invoke/VarHandle") ∧ (parseMethodDescriptor y.desc).map (fun d => d.parameters.length) = some na ∧ Cond.initialized y.cls ∈ am_uw
theorem am_nar_len {y : MethodName} {na : Nat} (h : am_nar y na) : ∀ sig, parseMethodDescriptor y.desc = some sig → na = sig.parameters.length := by
  intro sig hs
  have := h.2.1
  rw [hs] at this
  simpa using this.symm
theorem am_words {s : State} {args : Array Value} {w0 : Cond} (hw0 : w0 ∈ am_uw) (hts : ∀ w ∈ am_uw, w.before args s = true) : ∀ w ∈ w0 :: am_uw, ∀ (a' : Array Value) (U : State), s.WarmedH U.vm → w.before a' U = true := by
  intro w hw a' U hW
  have hw' : w ∈ am_uw := by
    rcases List.mem_cons.mp hw with z | z
    · rw [z]; exact hw0
    · exact z
  exact word_at hW (good_of_word (am_uw_good w hw')) (hts w hw')
theorem am_rev {as st : List am_AV} {ι : am_Nm → Option Nat} : ∀ {sr : List Value}, am_T ι (as.reverse ++ st) sr → ∃ av sr', sr = av.reverse ++ sr' ∧ am_T ι as av ∧ am_T ι st sr' := by
  induction as generalizing st with
  | nil => intro sr ht; exact ⟨[], sr, rfl, trivial, ht⟩
  | cons a as ih =>
    intro sr ht
    rw [List.reverse_cons, List.append_assoc] at ht
    obtain ⟨av, sr', rfl, h1, h2⟩ := ih (st := [a] ++ st) ht
    obtain ⟨w, ws, rfl, h3, h4⟩ := am_T_1 h2
    exact ⟨w :: av, ws, by simp, ⟨h3, h1⟩, h4⟩
section AmCalls
variable {idx ci na d' mc' ms' nL' : Nat} {y : MethodName} {bytes : ByteArray} {ret : Option FieldType} {as fs st0 : List am_AV} {nm : am_Nm} {Q' : am_Re → am_AH → Prop}
/-- a call of an instance method of a class by its own link, or by a nest mate's -/
def am_mv_ (own : String) (idx ci : Nat) (y : MethodName) (na : Nat) (w0 : Cond) : Prop := w0 ∈ am_uw ∧ am_nar y na ∧ Cond.instanceMethod y ∈ am_uw ∧ (∃ r, vwCl[ci]? = some r ∧ Cond.selects r.1 y y ∈ am_uw) ∧ (Cond.methodLink own idx y ∈ am_uw ∨ ∃ host, Cond.methodLinkNest own idx y host ∈ lw_tbl)
theorem am_callV (hd : am_d Y.1 pc (.invokevirtual idx) 3 q) (hw : am_mv_ Y.2.2.1 idx ci y na (.code y bytes nL' ret)) (hC : am_Con G y (.code y bytes nL' ret) d' mc' ms' (am_R nm :: as) h Q') (hst0 : st0 = as.reverse ++ am_R nm :: st) (hna : as.length = na) (hh : h nm = some (am_O ci fs)) (hdd : d' + 1 ≤ d) (hnL : nL' ≤ 17) (hst : st.length ≤ 4) (hk : k + mc' ≤ mc) (hn : n + ms' ≤ ms)
    (kk : ∀ r h', Q' (.inl r) h' → am_W G X Y d mc ms Qs q ls (r.toList ++ st) h' (k + mc') (n + ms')) (kx : ∀ x h', Q' (.inr x) h' → am_WX G X Y d mc ms Qs pc ls h' (k + mc') (n + ms') x) : am_W G X Y d mc ms Qs pc ls st0 h k n := by
  subst hst0
  obtain ⟨p, e, R, s, m, args, below, meth, c, ι0⟩ := X
  obtain ⟨hd, rfl⟩ := hd
  intro ok ι H lr sr lc hr hl ht
  obtain ⟨av, sr1, rfl, ht1, ht2⟩ := am_rev ht
  obtain ⟨w, sr2, rfl, ⟨a, ha, rfl⟩, ht3⟩ := am_T_1 ht2
  have ok' := ok
  obtain ⟨hx, hb, hml, ho, hts, -, -, -, -, hRf, hRl, hRc, hRs, hold, hK⟩ := ok
  obtain ⟨w1, w2, w3, ⟨r9, hr9, w4⟩, w5⟩ := hw
  have hM := hC ι (Value.ref a :: av) ⟨⟨a, ha, rfl⟩, ht1⟩
  have hsum := am_sum8 ι ht3 hst
  have hp : PreV s H r9.1 a (am_Pc G ι (Value.ref a :: av) h) av := by
    refine ⟨am_blind, ?_, fun U hU hW => ⟨rfl, by rw [hU]; exact hr.1, by rw [hU]; exact hr.2.1, am_K_warm hW hK⟩⟩
    obtain ⟨a', ha', r, V, g1, ⟨ce9, g2, g3, g4, -⟩, -⟩ := hr.1.1 nm _ hh
    cases ha.symm.trans ha'
    cases hr9.symm.trans g1
    exact ⟨ce9, g2, by rw [g4]; rfl, by rw [g3]; exact (hK.1.1 ci _ g1).2.1⟩
  have hroom : 8 + (nL' + 11) + (am_rm d' mc' ms').locals ≤ R.locals := by
    show 8 + (nL' + 11) + 36 * d' ≤ R.locals
    omega
  have hfr : (am_rm d' mc' ms').frames + 1 ≤ R.frames := by rw [hRf]; exact hdd
  have hlen : av.length = na := (am_T_len ht1).trans hna
  refine am_run (a9 := (Value.ref a :: av).toArray) ok' ?_ hr hl ht3 kk kx
  rcases w5 with w5 | ⟨host, w5⟩
  · exact vx_runV (As := av) (rest := sr2) (n := na) (C := r9.1) (index := idx) (y := y) ⟨hx, hb, hml, ho, hts⟩ hM ⟨⟨rfl, rfl, hfr, hroom, am_words w1 hts, List.mem_cons_self, hts _ w1, hts _ w2.2.2, w2.1, am_nar_len w2, hts _ w5⟩, hts _ w3, hts _ w4⟩ hp rfl hlen hl.1 rfl (lv_room hsum) hd ⟨by rw [hRc]; exact hk, by rw [hRs]; exact hn⟩
  · exact vx_runVN (As := av) (rest := sr2) (n := na) (C := r9.1) (index := idx) (y := y) (host := host) ⟨hx, hb, hml, ho, hts⟩ hM ⟨⟨⟨rfl, rfl, hfr, hroom, am_words w1 hts, List.mem_cons_self⟩, hts _ w1, hts _ w2.2.2, w2.1, am_nar_len w2, va_Nw.use rfl (hK.2.2.1 _ w5 rfl)⟩, hts _ w3, hts _ w4⟩ hp rfl hlen hl.1 rfl (lv_room hsum) hd ⟨by rw [hRc]; exact hk, by rw [hRs]; exact hn⟩
def am_ms_ (own : String) (idx : Nat) (y : MethodName) (na : Nat) (w0 : Cond) : Prop := w0 ∈ am_uw ∧ am_nar y na ∧ Cond.static y ∈ am_uw ∧ Cond.methodLink own idx y ∈ am_uw
theorem am_callS (hd : am_d Y.1 pc (.invokestatic idx) 3 q) (hw : am_ms_ Y.2.2.1 idx y na (.code y bytes nL' ret)) (hC : am_Con G y (.code y bytes nL' ret) d' mc' ms' as h Q') (hst0 : st0 = as.reverse ++ st) (hna : as.length = na) (hdd : d' + 1 ≤ d) (hnL : nL' ≤ 17) (hst : st.length ≤ 4) (hk : k + mc' ≤ mc) (hn : n + ms' ≤ ms)
    (kk : ∀ r h', Q' (.inl r) h' → am_W G X Y d mc ms Qs q ls (r.toList ++ st) h' (k + mc') (n + ms')) (kx : ∀ x h', Q' (.inr x) h' → am_WX G X Y d mc ms Qs pc ls h' (k + mc') (n + ms') x) : am_W G X Y d mc ms Qs pc ls st0 h k n := by
  subst hst0
  obtain ⟨p, e, R, s, m, args, below, meth, c, ι0⟩ := X
  obtain ⟨hd, rfl⟩ := hd
  intro ok ι H lr sr lc hr hl ht
  obtain ⟨av, sr2, rfl, ht1, ht3⟩ := am_rev ht
  have ok' := ok
  obtain ⟨hx, hb, hml, ho, hts, -, -, -, -, hRf, hRl, hRc, hRs, hold, hK⟩ := ok
  obtain ⟨w1, w2, w3, w5⟩ := hw
  have hM := hC ι av ht1
  have hsum := am_sum8 ι ht3 hst
  have hp : PreS s H (am_Pc G ι av h) av := ⟨am_blind, fun U hU hW => ⟨rfl, by rw [hU]; exact hr.1, by rw [hU]; exact hr.2.1, am_K_warm hW hK⟩⟩
  have hroom : 8 + (nL' + 11) + (am_rm d' mc' ms').locals ≤ R.locals := by
    show 8 + (nL' + 11) + 36 * d' ≤ R.locals
    omega
  have hfr : (am_rm d' mc' ms').frames + 1 ≤ R.frames := by rw [hRf]; exact hdd
  have hlen : av.length = na := (am_T_len ht1).trans hna
  refine am_run (a9 := av.toArray) ok' ?_ hr hl ht3 kk kx
  exact vx_runS (As := av) (rest := sr2) (n := na) (index := idx) (y := y) ⟨hx, hb, hml, ho, hts⟩ hM ⟨⟨rfl, rfl, hfr, hroom, am_words w1 hts, List.mem_cons_self, hts _ w1, hts _ w2.2.2, w2.1, am_nar_len w2, hts _ w5⟩, hts _ w3⟩ hp rfl hlen hl.1 rfl (lv_room hsum) hd ⟨by rw [hRc]; exact hk, by rw [hRs]; exact hn⟩
theorem am_callSH {hh9 : List (Nat × Nat × Nat × Nat)} (hd : am_d Y.1 pc (.invokestatic idx) 3 q) (hw : am_ms_ Y.2.2.1 idx y na (.codeWith y bytes nL' ret hh9)) (hC : am_Con G y (.codeWith y bytes nL' ret hh9) d' mc' ms' as h Q') (hst0 : st0 = as.reverse ++ st) (hna : as.length = na) (hdd : d' + 1 ≤ d) (hnL : nL' ≤ 17) (hst : st.length ≤ 4) (hk : k + mc' ≤ mc) (hn : n + ms' ≤ ms)
    (kk : ∀ r h', Q' (.inl r) h' → am_W G X Y d mc ms Qs q ls (r.toList ++ st) h' (k + mc') (n + ms')) (kx : ∀ x h', Q' (.inr x) h' → am_WX G X Y d mc ms Qs pc ls h' (k + mc') (n + ms') x) : am_W G X Y d mc ms Qs pc ls st0 h k n := by
  subst hst0
  obtain ⟨p, e, R, s, m, args, below, meth, c, ι0⟩ := X
  obtain ⟨hd, rfl⟩ := hd
  intro ok ι H lr sr lc hr hl ht
  obtain ⟨av, sr2, rfl, ht1, ht3⟩ := am_rev ht
  have ok' := ok
  obtain ⟨hx, hb, hml, ho, hts, -, -, -, -, hRf, hRl, hRc, hRs, hold, hK⟩ := ok
  obtain ⟨w1, w2, w3, w5⟩ := hw
  have hM := hC ι av ht1
  have hsum := am_sum8 ι ht3 hst
  have hp : PreS s H (am_Pc G ι av h) av := ⟨am_blind, fun U hU hW => ⟨rfl, by rw [hU]; exact hr.1, by rw [hU]; exact hr.2.1, am_K_warm hW hK⟩⟩
  have hroom : 8 + (nL' + 11) + (am_rm d' mc' ms').locals ≤ R.locals := by
    show 8 + (nL' + 11) + 36 * d' ≤ R.locals
    omega
  have hfr : (am_rm d' mc' ms').frames + 1 ≤ R.frames := by rw [hRf]; exact hdd
  have hlen : av.length = na := (am_T_len ht1).trans hna
  refine am_run (a9 := av.toArray) ok' ?_ hr hl ht3 kk kx
  exact vx_runSX (As := av) (rest := sr2) (n := na) (index := idx) (y := y) ⟨hx, hb, hml, ho, hts⟩ hM ⟨⟨rfl, rfl, hfr, hroom, am_words w1 hts, List.mem_cons_self⟩, hts _ w1, hts _ w2.2.2, w2.1, am_nar_len w2, hts _ w5, hts _ w3⟩ hp rfl hlen hl.1 rfl (lv_room hsum) hd ⟨by rw [hRc]; exact hk, by rw [hRs]; exact hn⟩
def am_mi_ (own : String) (idx : Nat) (y : MethodName) (na : Nat) (w0 : Cond) : Prop := w0 ∈ am_uw ∧ am_nar y na ∧ Cond.instanceMethod y ∈ am_uw ∧ y.name = "<init>" ∧ (Cond.methodLink own idx y ∈ am_uw ∨ ∃ host, Cond.methodLinkNest own idx y host ∈ lw_tbl)
theorem am_callI (hd : am_d Y.1 pc (.invokespecial idx) 3 q) (hw : am_mi_ Y.2.2.1 idx y na (.code y bytes nL' none)) (hC : am_Con G y (.code y bytes nL' none) d' mc' ms' (am_R nm :: as) h Q') (hst0 : st0 = as.reverse ++ am_R nm :: st) (hna : as.length = na) (hdd : d' + 1 ≤ d) (hnL : nL' ≤ 17) (hst : st.length ≤ 4) (hk : k + mc' ≤ mc) (hn : n + ms' ≤ ms)
    (kk : ∀ r h', Q' (.inl r) h' → am_W G X Y d mc ms Qs q ls (r.toList ++ st) h' (k + mc') (n + ms')) (kx : ∀ x h', Q' (.inr x) h' → am_WX G X Y d mc ms Qs pc ls h' (k + mc') (n + ms') x) : am_W G X Y d mc ms Qs pc ls st0 h k n := by
  subst hst0
  obtain ⟨p, e, R, s, m, args, below, meth, c, ι0⟩ := X
  obtain ⟨hd, rfl⟩ := hd
  intro ok ι H lr sr lc hr hl ht
  obtain ⟨av, sr1, rfl, ht1, ht2⟩ := am_rev ht
  obtain ⟨w, sr2, rfl, ⟨a, ha, rfl⟩, ht3⟩ := am_T_1 ht2
  have ok' := ok
  obtain ⟨hx, hb, hml, ho, hts, -, -, -, -, hRf, hRl, hRc, hRs, hold, hK⟩ := ok
  obtain ⟨w1, w2, w3, w4, w5⟩ := hw
  have hM := hC ι (Value.ref a :: av) ⟨⟨a, ha, rfl⟩, ht1⟩
  have hsum := am_sum8 ι ht3 hst
  have hp : PreS s H (am_Pc G ι (Value.ref a :: av) h) (Value.ref a :: av) := ⟨am_blind, fun U hU hW => ⟨rfl, by rw [hU]; exact hr.1, by rw [hU]; exact hr.2.1, am_K_warm hW hK⟩⟩
  have hroom : 8 + (nL' + 11) + (am_rm d' mc' ms').locals ≤ R.locals := by
    show 8 + (nL' + 11) + 36 * d' ≤ R.locals
    omega
  have hfr : (am_rm d' mc' ms').frames + 1 ≤ R.frames := by rw [hRf]; exact hdd
  have hlen : av.length = na := (am_T_len ht1).trans hna
  refine am_run (a9 := (Value.ref a :: av).toArray) ok' ?_ hr hl ht3 kk kx
  rcases w5 with w5 | ⟨host, w5⟩
  · exact vx_runI (As := av) (rest := sr2) (n := na) (index := idx) (y := y) (b := a) ⟨hx, hb, hml, ho, hts⟩ hM ⟨⟨rfl, rfl, hfr, hroom, am_words w1 hts, List.mem_cons_self, hts _ w1, hts _ w2.2.2, w2.1, am_nar_len w2, hts _ w5⟩, w4, hts _ w3⟩ hp rfl hlen hl.1 rfl (lv_room hsum) hd ⟨by rw [hRc]; exact hk, by rw [hRs]; exact hn⟩
  · exact vx_runIN (As := av) (rest := sr2) (n := na) (index := idx) (y := y) (b := a) (host := host) ⟨hx, hb, hml, ho, hts⟩ hM ⟨⟨⟨rfl, rfl, hfr, hroom, am_words w1 hts, List.mem_cons_self⟩, hts _ w1, hts _ w2.2.2, w2.1, am_nar_len w2, va_Nw.use rfl (hK.2.2.1 _ w5 rfl)⟩, w4, hts _ w3⟩ hp rfl hlen hl.1 rfl (lv_room hsum) hd ⟨by rw [hRc]; exact hk, by rw [hRs]; exact hn⟩
theorem am_objInit (hd : am_d Y.1 pc (.invokespecial idx) 3 q) (hl1 : Cond.methodLink Y.2.2.1 idx Lib.objectInit ∈ am_uw) (hi1 : Cond.instanceMethod Lib.objectInit ∈ am_uw) (hc1 : Cond.code Lib.objectInit ⟨#[0xb1]⟩ 1 none ∈ am_uw) (hdd : 1 ≤ d) (hst : st.length ≤ 4) (kk : am_W G X Y d mc ms Qs q ls st h k n) : am_W G X Y d mc ms Qs pc ls (am_R nm :: st) h k n := by
  obtain ⟨p, e, R, s, m, args, below, meth, c, ι0⟩ := X
  obtain ⟨hd, rfl⟩ := hd
  intro ok ι H lr sr lc hr hl ht
  obtain ⟨w, sr2, rfl, ⟨a, ha, rfl⟩, ht3⟩ := am_T_1 ht
  have ok' := ok
  obtain ⟨hx, hb, hml, ho, hts, -, -, -, -, hRf, hRl, hRc, hRs, hold, hK⟩ := ok
  have hsum := am_sum8 ι ht3 hst
  exact W.objInit hx hb ho (hts _ hl1) (hts _ hi1) (hts _ hc1) rfl (by show lr.size = _; rw [hl.1, hml]) rfl hd (by rw [hRf]; exact hdd) (by show 2 * 0 + _ + 12 ≤ _; omega) (kk ok' ι H lr sr2 lc hr hl ht3)
end AmCalls
end AmEnds
end
section
/-! further rows: copies of arrays, long compares, the script, the switch, handlers -/
section AmMore
variable {G : am_G} {X : am_X} {Y : am_Y} {d mc ms : Nat} {Q : State → Prop} {pc q t : Nat} {ls : List (Option am_AV)} {st : List am_AV} {h : am_AH} {k n : Nat}
theorem am_r64 {a : Int} (h : am_r a) : (Int64.ofInt a).toInt = a := Int64.toInt_ofInt_of_le (by have := h.1; omega) (by have := h.2; omega)
theorem am_lcmp {a b : Int} (ha : am_r a) (hb : am_r b) (hd : am_d Y.1 pc .lcmp 1 q) (kk : ∀ z, am_r z → (z = 0 ↔ a = b) → am_W G X Y d mc ms Q q ls (am_I z :: st) h k n) : am_W G X Y d mc ms Q pc ls (am_J b :: am_J a :: st) h k n := by
  obtain ⟨p, e, R, s, m, args, below, meth, c, ι0⟩ := X
  obtain ⟨hd, rfl⟩ := hd
  intro ok ι H lr sr lc hr hl ht
  obtain ⟨w, sr, rfl, q1, ht1⟩ := am_T_1 ht
  obtain ⟨u, sr, rfl, q2, ht2⟩ := am_T_1 ht1
  cases q1; cases q2
  have he : Int64.ofInt a = Int64.ofInt b ↔ a = b := by rw [← Int64.toInt_inj, am_r64 ha, am_r64 hb]
  have hg : Int64.ofInt a > Int64.ofInt b ↔ b < a := by rw [gt_iff_lt, Int64.lt_iff_toInt_lt, am_r64 ha, am_r64 hb]
  refine W.lcmp ok.1 ok.2.1 hd ?_
  have key : ∃ z : Int, am_r z ∧ (z = 0 ↔ a = b) ∧ lg_cmp (Int64.ofInt a) (Int64.ofInt b) = Int32.ofInt z := by
    unfold lg_cmp
    by_cases c1 : b < a
    · refine ⟨1, ⟨by decide, by decide⟩, ⟨fun z => absurd z (by decide), fun z => by omega⟩, ?_⟩
      rw [if_pos (hg.mpr c1)]; decide
    · rw [if_neg (fun z => c1 (hg.mp z))]
      by_cases c2 : a = b
      · refine ⟨0, am_r0, ⟨fun _ => c2, fun _ => rfl⟩, ?_⟩
        rw [if_pos (he.mpr c2)]; decide
      · refine ⟨-1, ⟨by decide, by decide⟩, ⟨fun z => absurd z (by decide), fun z => absurd z c2⟩, ?_⟩
        rw [if_neg (fun z => c2 (he.mp z))]; decide
  obtain ⟨z, z1, z2, z3⟩ := key
  rw [z3]
  exact kk z z1 z2 ok ι H lr _ lc hr hl ⟨rfl, ht2⟩
/-- the script's ints -/
theorem am_sld {i : Int} (hd : am_d Y.1 pc .iaload 1 q) (h0 : 0 ≤ i) (h1 : i < G.2.2.2.2.2.2.1) (hz : G.2.2.2.2.2.2.1 < 2147483648) (kk : am_W G X Y d mc ms Q q ls (am_I (G.2.2.2.2.2.2.2 i.toNat).toInt :: st) h k n) : am_W G X Y d mc ms Q pc ls (am_I i :: am_R am_scr :: st) h k n := by
  obtain ⟨p, e, R, s, m, args, below, meth, c, ι0⟩ := X
  obtain ⟨hd, rfl⟩ := hd
  intro ok ι H lr sr lc hr hl ht
  obtain ⟨w, sr, rfl, hw, ht1⟩ := am_T_1 ht
  cases hw
  obtain ⟨w2, sr, rfl, ⟨a, ha, rfl⟩, ht2⟩ := am_T_1 ht1
  have hK : am_K G s := ok.2.2.2.2.2.2.2.2.2.2.2.2.2.2
  obtain ⟨scr, g1, g2, g3, g4, g5⟩ := hK.2.2.2.2.2.2.1
  have hsb := hK.2.2.2.2.2.2.2.1
  have hab : a = G.2.2.2.2.2.1 := Option.some.inj (ha.symm.trans hr.1.2.2.2.2)
  subst hab
  obtain ⟨b1, b2⟩ := am_idx h0 h1 hz
  refine W.iald ok.1 ok.2.1 (by rw [hr.2.1.2 _ hsb]; exact g1) g2 g3 (by rw [g4]; exact b1) (v := .int (G.2.2.2.2.2.2.2 i.toNat)) (by rw [b2]; exact g5 _ (by omega)) rfl rfl hd ?_
  exact kk ok ι H lr _ lc hr hl ⟨by show Value.int _ = Value.int _; rw [Int32.ofInt_toInt], ht2⟩
theorem am_slen (hd : am_d Y.1 pc .arraylength 1 q) (kk : am_W G X Y d mc ms Q q ls (am_I (G.2.2.2.2.2.2.1 : Nat) :: st) h k n) : am_W G X Y d mc ms Q pc ls (am_R am_scr :: st) h k n := by
  obtain ⟨p, e, R, s, m, args, below, meth, c, ι0⟩ := X
  obtain ⟨hd, rfl⟩ := hd
  intro ok ι H lr sr lc hr hl ht
  obtain ⟨w2, sr, rfl, ⟨a, ha, rfl⟩, ht2⟩ := am_T_1 ht
  have hK : am_K G s := ok.2.2.2.2.2.2.2.2.2.2.2.2.2.2
  obtain ⟨scr, g1, g2, g3, g4, g5⟩ := hK.2.2.2.2.2.2.1
  have hsb := hK.2.2.2.2.2.2.2.1
  have hab : a = G.2.2.2.2.2.1 := Option.some.inj (ha.symm.trans hr.1.2.2.2.2)
  subst hab
  refine W.alen (n := Int32.ofInt (G.2.2.2.2.2.2.1 : Nat)) ok.1 ok.2.1 (by rw [hr.2.1.2 _ hsb]; exact g1) g2 (by rw [g4]; rfl) rfl rfl hd ?_
  exact kk ok ι H lr _ lc hr hl ⟨rfl, ht2⟩
theorem am_and31 {a : Int} (ha : am_r a) (hd : am_d Y.1 pc .iand 1 q) (kk : am_W G X Y d mc ms Q q ls (am_I (a % 32) :: st) h k n) : am_W G X Y d mc ms Q pc ls (am_I 31 :: am_I a :: st) h k n := by
  obtain ⟨p, e, R, s, m, args, below, meth, c, ι0⟩ := X
  obtain ⟨hd, rfl⟩ := hd
  intro ok ι H lr sr lc hr hl ht
  obtain ⟨w, sr, rfl, q1, ht1⟩ := am_T_1 ht
  obtain ⟨u, sr, rfl, q2, ht2⟩ := am_T_1 ht1
  cases q1; cases q2
  refine lv_iand ok.1 ok.2.1 hd (kk ok ι H lr _ lc hr hl ⟨?_, ht2⟩)
  show Value.int _ = Value.int _
  congr 1
  rw [pk_and (Int32.ofInt a) (m := Int32.ofInt 31) 5 (by decide)]
  rw [← Int32.toInt_inj, am_toInt ⟨by omega, by omega⟩, nI_toInt (by omega)]
  have h3 : (Int32.ofInt a).toBitVec.toNat = (a % 2 ^ 32).toNat := by
    show (BitVec.ofInt 32 a).toNat = _
    rw [BitVec.toNat_ofInt]
    rfl
  rw [h3]
  omega
theorem am_tabOut {dflt lo hi : Int} {offs : Array Int} {len : Nat} {x : Int} (hx : am_r x) (hd : decode Y.1 pc = .ok (.tableswitch dflt lo hi offs, len)) (ht9 : (pc : Int) + dflt = (t : Int)) (hb9 : x < lo ∨ hi < x) (kk : am_W G X Y d mc ms Q t ls st h k n) : am_W G X Y d mc ms Q pc ls (am_I x :: st) h k n := by
  obtain ⟨p, e, R, s, m, args, below, meth, c, ι0⟩ := X
  intro ok ι H lr sr lc hr hl ht
  obtain ⟨w, sr, rfl, q1, ht1⟩ := am_T_1 ht
  cases q1
  exact lv_tableOut ok.1 ok.2.1 hd (by rw [am_toInt hx]; exact hb9) ht9 (kk ok ι H lr _ lc hr hl ht1)
theorem am_tabIn {dflt lo hi off : Int} {offs : Array Int} {len : Nat} {x : Int} (hx : am_r x) (hd : decode Y.1 pc = .ok (.tableswitch dflt lo hi offs, len)) (h1 : lo ≤ x) (h2 : x ≤ hi) (ho : offs[(x - lo).toNat]? = some off) (ht9 : (pc : Int) + off = (t : Int)) (kk : am_W G X Y d mc ms Q t ls st h k n) : am_W G X Y d mc ms Q pc ls (am_I x :: st) h k n := by
  obtain ⟨p, e, R, s, m, args, below, meth, c, ι0⟩ := X
  intro ok ι H lr sr lc hr hl ht
  obtain ⟨w, sr, rfl, q1, ht1⟩ := am_T_1 ht
  cases q1
  exact lv_tableIn ok.1 ok.2.1 hd (by rw [am_toInt hx]; omega) (by rw [am_toInt hx]; omega) (by rw [am_toInt hx]; exact ho) ht9 (kk ok ι H lr _ lc hr hl ht1)
theorem am_L_setN {nL : Nat} {ι : am_Nm → Option Nat} {lr lr' : Array Slot} (hl : am_L nL ι ls lr) {i : Nat} {w : Value} (h2 : lv_has lr' nL ((i, w) :: (am_lv lr).filter (fun q => !(q.1 == i) && !(q.1 + 1 == i && q.2.category == 2)))) : am_L nL ι (ls.set i none) lr' := by
  refine ⟨h2.1, h2.2.1, by rw [List.length_set]; exact hl.2.2.1, fun j u hu => ?_⟩
  by_cases e : j = i
  · subst e
    by_cases hj : j < ls.length
    · rw [List.getElem?_set_self hj] at hu
      cases hu
    · rw [List.getElem?_eq_none (by simpa using hj)] at hu
      cases hu
  · rw [List.getElem?_set_ne (Ne.symm e)] at hu
    obtain ⟨w', h3, h4, h5⟩ := hl.2.2.2 j u hu
    refine ⟨w', h2.2.2 (j, w') (List.mem_cons_of_mem _ (List.mem_filter.mpr ⟨am_lv_in h3 h5, ?_⟩)), h4, h5⟩
    simp [e, h5]
/-- caught by the i-th handler, and put away into a local -/
theorem am_catch {x i a b hp ct j : Nat} (hi : Y.2.2.2.2.2[i]? = some (a, b, hp, ct)) (hx : x < 3) (hcov : a ≤ pc ∧ pc < b) (hpass : ∀ z ∈ Y.2.2.2.2.2.take i, z.2.2.2 ≠ 0 ∧ ∃ y, y < 3 ∧ y ≠ x ∧ Cond.classLink Y.2.2.1 z.2.2.2 (am_ex y) ∈ am_uw) (hct : ct ≠ 0) (hlk : Cond.classLink Y.2.2.1 ct (am_ex x) ∈ am_uw) (hcs : Cond.castable (am_ex x) (am_ex x) ∈ lw_tbl)
    (hd : am_d Y.1 hp (.astore j) 2 q ∨ ∃ jn : Fin 4, (jn : Nat) = j ∧ am_d Y.1 hp (.astore_n jn) 1 q) (hj : j < Y.2.1) (kk : am_W G X Y d mc ms Q q (ls.set j none) [] h k n) : am_WX G X Y d mc ms Q pc ls h k n x := by
  obtain ⟨p, e, R, s, m, args, below, meth, c, ι0⟩ := X
  intro ok ι H lr sr lc q9 ce hr hl h1 h2 h3
  have ok' := ok
  obtain ⟨hx9, hb, hml, ho, hts, -, -, -, htb, hRf, hRl, hRc, hRs, hold, hK⟩ := ok
  have hsp : Y.2.2.2.2.2 = Y.2.2.2.2.2.take i ++ (a, b, hp, ct) :: Y.2.2.2.2.2.drop (i + 1) := by
    have hlt := (List.getElem?_eq_some_iff.mp hi).1
    have he := (List.getElem?_eq_some_iff.mp hi).2
    have := List.take_append_drop i Y.2.2.2.2.2
    rw [List.drop_eq_getElem_cons hlt, he] at this
    exact this.symm
  rw [hsp] at htb
  have htb2 : c.exceptionTable.toList = tableOf (Y.2.2.2.2.2.take i) ++ { startPc := a, endPc := b, handlerPc := hp, catchType := ct } :: tableOf (Y.2.2.2.2.2.drop (i + 1)) := by
    rw [htb]
    simp [tableOf]
  refine vx_catch (own := Y.2.2.1) (name := am_ex x) ho _ _ _ htb2 (fun z hz => Or.inr ?_) (by simp [covers]; omega) hct (hts _ hlk) (va_Nw.use rfl (hK.2.2.1 _ hcs rfl)) h1 h2 h3 ?_
  · obtain ⟨z', hz', rfl⟩ : ∃ z' ∈ Y.2.2.2.2.2.take i, z = { startPc := z'.1, endPc := z'.2.1, handlerPc := z'.2.2.1, catchType := z'.2.2.2 } := by
      simp only [tableOf, List.mem_map] at hz
      obtain ⟨z', g1, g2⟩ := hz
      exact ⟨z', g1, g2.symm⟩
    obtain ⟨g1, y, g2, g3, g4⟩ := hpass z' hz'
    exact ⟨g1, am_ex y, hts _ g4, hK.2.2.2.2.2.1 x y hx g2 (Ne.symm g3)⟩
  · rcases hd with ⟨hd, rfl⟩ | ⟨jn, rfl, hd, rfl⟩
    · exact lv_astore hx9 hb hd (am_lv_has hl) hj rfl fun lr' hl' => kk ok' ι H lr' [] lc hr (am_L_setN hl hl') trivial
    · exact lv_astore_n hx9 hb hd rfl (am_lv_has hl) hj rfl fun lr' hl' => kk ok' ι H lr' [] lc hr (am_L_setN hl hl') trivial
/-- ints copied from one place to another, perhaps of the same array -/
def am_cpy (f g : Nat → Int) (sp dp n : Nat) : Nat → Int := fun j => if dp ≤ j ∧ j < dp + n then f (sp + (j - dp)) else g j
theorem am_arrI {ι : am_Nm → Option Nat} {len a : Nat} {f : Nat → Int} {H : Heap} (hc : am_C G ι (am_A 0 len (fun j => am_I (f j))) a H) : H[a]? = some (arrV (G.2.2.2.2.1 0) len (fun j => .int (Int32.ofInt (f j)))) := by
  obtain ⟨w, h1, h2⟩ := hc
  rw [h1]
  congr 1
  unfold arrV
  congr 1
  congr 1
  funext j
  exact h2 j.val j.isLt
theorem am_copy {n0 n1 : am_Nm} {l0 l1 : Nat} {f g : Nat → Int} {sp dp len : Int} {idx : Nat} (hd : am_d Y.1 pc (.invokestatic idx) 3 q) (hlk : Cond.methodLink Y.2.2.1 idx arraycopyName ∈ am_uw) (hnat : Cond.native arraycopyName ∈ am_uw) (hstt : Cond.static arraycopyName ∈ am_uw) (hini : Cond.initialized "java/lang/System" ∈ am_uw)
    (hh0 : h n0 = some (am_A 0 l0 (fun j => am_I (f j)))) (hh1 : h n1 = some (am_A 0 l1 (fun j => am_I (g j)))) (h1 : 0 ≤ sp) (h2 : 0 ≤ dp) (h3 : 0 ≤ len) (h4 : sp + len ≤ l0) (h5 : dp + len ≤ l1) (hl0 : l0 < 1000000) (hl1 : l1 < 1000000) (hdd : 2 ≤ d) (hst : st.length ≤ 4)
    (kk : am_W G X Y d mc ms Q q ls st (am_up h n1 (am_A 0 l1 (fun j => am_I (am_cpy f g sp.toNat dp.toNat len.toNat j)))) k n) : am_W G X Y d mc ms Q pc ls (am_I len :: am_I dp :: am_R n1 :: am_I sp :: am_R n0 :: st) h k n := by
  obtain ⟨p, e, R, s, m, args, below, meth, c, ι0⟩ := X
  obtain ⟨hd, rfl⟩ := hd
  intro ok ι H lr sr lc hr hl ht
  obtain ⟨w, sr, rfl, hw, ht1⟩ := am_T_1 ht
  cases hw
  obtain ⟨w, sr, rfl, hw, ht2⟩ := am_T_1 ht1
  cases hw
  obtain ⟨w, sr, rfl, ⟨a1, ha1, rfl⟩, ht3⟩ := am_T_1 ht2
  obtain ⟨w, sr, rfl, hw, ht4⟩ := am_T_1 ht3
  cases hw
  obtain ⟨w, sr, rfl, ⟨a0, ha0, rfl⟩, ht5⟩ := am_T_1 ht4
  have ok' := ok
  obtain ⟨hx, hb, hml, ho, hts, -, -, -, htb, hRf, hRl, hRc, hRs, hold, hK⟩ := ok
  obtain ⟨a0', ha0', hc0'⟩ := hr.1.1 n0 _ hh0
  cases ha0.symm.trans ha0'
  obtain ⟨a1', ha1', hc1'⟩ := hr.1.1 n1 _ hh1
  cases ha1.symm.trans ha1'
  have hc0 := am_arrI hc0'
  have hc1 := am_arrI hc1'
  have rr : ∀ z : Int, 0 ≤ z → z ≤ 1000000 → ¬ Int32.ofInt z < 0 ∧ (Int32.ofInt z).toNatClampNeg = z.toNat ∧ (Int32.ofInt z).toInt = z := by
    intro z g1 g2
    have hrz : am_r z := ⟨by omega, by omega⟩
    refine ⟨by rw [am_z, am_lt hrz am_r0]; omega, ?_, am_toInt hrz⟩
    show (Int32.ofInt z).toInt.toNat = z.toNat
    rw [am_toInt hrz]
  obtain ⟨s1, s2, s3⟩ := rr sp h1 (by omega)
  obtain ⟨d1, d2, d3⟩ := rr dp h2 (by omega)
  obtain ⟨e1, e2, e3⟩ := rr len h3 (by omega)
  have hsum := am_sum8 ι ht5 hst
  obtain ⟨-, k0, hk0, cm0, hkk0⟩ := (hK.1.2 0 _ (am_tys_at G 0 (by decide))).1 l0 (fun j => .int (Int32.ofInt (f j)))
  obtain ⟨-, k1, hk1, cm1, hkk1⟩ := (hK.1.2 0 _ (am_tys_at G 0 (by decide))).1 l1 (fun j => .int (Int32.ofInt (g j)))
  have hnf : nativeFrameWords "java/lang/System" "arraycopy" 5 ≤ 50 := by decide +kernel
  intro T hT XX
  obtain ⟨vm', X', step⟩ := XX.arraycopy hx ho (hts _ hlk) (hts _ hnat) (hts _ hstt) (hts _ hini) (src := a0) (dst := a1) (cs := arrV (G.2.2.2.2.1 0) l0 (fun j => .int (Int32.ofInt (f j)))) (cd := arrV (G.2.2.2.2.1 0) l1 (fun j => .int (Int32.ofInt (g j)))) (srcPos := Int32.ofInt sp) (destPos := Int32.ofInt dp) (n := Int32.ofInt len) (by rw [hT]; exact hc0) (by rw [hT]; exact hc1)
    (fun _ h => by cases h) (fun _ h => by cases h) (fun h => by cases h) (fun h => by cases h) hk0 hk1 hkk0 hkk1 rfl s1 d1 e1
    (by rw [s3, e3, arrV_size]; omega)
    (by rw [d3, e3, arrV_size]; omega)
    (fun vm₁ _ i hi => by
      rw [e2] at hi
      have e9 : (arrV (G.2.2.2.2.1 0) l0 (fun j => .int (Int32.ofInt (f j)))).slots.getD ((Int32.ofInt sp).toNatClampNeg + i) .null = .int (Int32.ofInt (f ((Int32.ofInt sp).toNatClampNeg + i))) := by
        rw [Array.getD_eq_getD_getElem?, arrV_read _ _ (by rw [s2]; omega)]
        rfl
      refine ⟨?_, ?_⟩
      · rw [e9]
        rfl
      · rw [e9]
        exact trivial)
    (g := F0 m pc lr (.int (Int32.ofInt len) :: .int (Int32.ofInt dp) :: .ref a1 :: .int (Int32.ofInt sp) :: .ref a0 :: sr)) rfl (by rw [hml]; exact hl.1) (rest := sr) rfl (by rw [hb]; exact hd) (by rw [hRf]; omega) (by show 2 * 0 + _ + (nativeFrameWords "java/lang/System" "arraycopy" 5 + 11) ≤ _; omega)
  have e1 : copied (arrV (G.2.2.2.2.1 0) l0 (fun j => .int (Int32.ofInt (f j)))) (arrV (G.2.2.2.2.1 0) l1 (fun j => .int (Int32.ofInt (g j)))) (Int32.ofInt sp) (Int32.ofInt dp) (Int32.ofInt len) = arrV (G.2.2.2.2.1 0) l1 (fun j => .int (Int32.ofInt (am_cpy f g sp.toNat dp.toNat len.toNat j))) := by
    have z := va_copied (fun z => Value.int (Int32.ofInt z)) (G.2.2.2.2.1 0) (G.2.2.2.2.1 0) (n0 := l0) (n1 := l1) (sp := (Int32.ofInt sp).toNatClampNeg) (dp := (Int32.ofInt dp).toNatClampNeg) (n := (Int32.ofInt len).toNatClampNeg) f g (by rw [s2, e2]; omega)
    refine Eq.trans z ?_
    rw [s2, d2, e2]
    rfl
  rw [e1] at X' step
  have hlt : a1 < H.size := (Array.getElem?_eq_some_iff.mp hc1).1
  have hheap : ((T.setVm vm').setCell a1 (arrV (G.2.2.2.2.1 0) l1 (fun j => .int (Int32.ofInt (am_cpy f g sp.toNat dp.toNat len.toNat j))))).heap = H.setIfInBounds a1 (arrV (G.2.2.2.2.1 0) l1 (fun j => .int (Int32.ofInt (am_cpy f g sp.toNat dp.toNat len.toNat j)))) := by rw [← hT]; rfl
  have hfr := am_scr_ne hr.1 hh1 ha1
  have hrel := am_Rel_set (sl := 0) (H1 := H.setIfInBounds a1 (arrV (G.2.2.2.2.1 0) l1 (fun j => .int (Int32.ofInt (am_cpy f g sp.toNat dp.toNat len.toNat j))))) hr hh1 ha1 (by simp) (fun b hb => by simp [Array.getElem?_setIfInBounds, Ne.symm hb]) (c1 := am_A 0 l1 (fun j => am_I (am_cpy f g sp.toNat dp.toNat len.toNat j))) ⟨_, by simp [Array.getElem?_setIfInBounds, hlt], fun j _ => rfl⟩
  obtain ⟨t, b1, b2⟩ := kk ok' ι _ lr sr _ ⟨hrel.1, hrel.2.1, hrel.2.2.1, fun z hz => by
    rcases List.mem_append.mp hz with h | h
    · exact hr.2.2.2.1 z h
    · obtain ⟨y, -, hy⟩ := List.mem_map.mp h
      rw [← hy]
      exact hfr, hrel.2.2.2.2⟩ hl ht5 _ hheap X'
  exact ⟨t, step t b1, b2⟩
end AmMore
end
section
theorem zz_probe : True := trivial
end
