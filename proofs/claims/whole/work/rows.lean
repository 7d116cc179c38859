section
-- ===== PART A: goes FIRST, ahead of the names: the tables' words, and 'selects' of the private methods out of them =====
/-- a private method of a class that the tables say can be made, by its rows of tables_1 -/
def lw_okq (q : MethodName × Nat) : Prop := (q.1.cls ≠ "java/lang/invoke/MethodHandle" ∧ q.1.cls ≠ "java/lang/invoke/VarHandle") ∧ Cond.instantiable q.1.cls q.2 ∈ tables_1 ∧ Cond.privateMethod q.1 ∈ tables_1 ∧ Cond.instanceMethod q.1 ∈ tables_1
theorem lw_p0 : lw_okq (⟨"ArmtowerLine", "tapeOf", "(Z)LArmtowerLine$Tape;"⟩, 14) := ⟨⟨by decide +kernel, by decide +kernel⟩, List.mem_of_getElem? (i := 20) (by decide +kernel), List.mem_of_getElem? (i := 138) (by decide +kernel), List.mem_of_getElem? (i := 139) (by decide +kernel)⟩
theorem lw_p1 : lw_okq (⟨"java/lang/Throwable", "fillInStackTrace", "(I)Ljava/lang/Throwable;"⟩, 6) := ⟨⟨by decide +kernel, by decide +kernel⟩, List.mem_of_getElem? (i := 196) (by decide +kernel), List.mem_of_getElem? (i := 194) (by decide +kernel), List.mem_of_getElem? (i := 195) (by decide +kernel)⟩
theorem lw_p2 : lw_okq (⟨"ArmtowerLine", "stretchAt", "(I)LArmtowerLine$Stretch;"⟩, 14) := ⟨⟨by decide +kernel, by decide +kernel⟩, List.mem_of_getElem? (i := 20) (by decide +kernel), List.mem_of_getElem? (i := 343) (by decide +kernel), List.mem_of_getElem? (i := 344) (by decide +kernel)⟩
theorem lw_p3 : lw_okq (⟨"ArmtowerLine$Stretch", "layHill", "(II)Z"⟩, 5) := ⟨⟨by decide +kernel, by decide +kernel⟩, List.mem_of_getElem? (i := 310) (by decide +kernel), List.mem_of_getElem? (i := 364) (by decide +kernel), List.mem_of_getElem? (i := 365) (by decide +kernel)⟩
theorem lw_p4 : lw_okq (⟨"ArmtowerLine", "towerAt", "(I)LArmtowerLine$Tower;"⟩, 14) := ⟨⟨by decide +kernel, by decide +kernel⟩, List.mem_of_getElem? (i := 20) (by decide +kernel), List.mem_of_getElem? (i := 384) (by decide +kernel), List.mem_of_getElem? (i := 385) (by decide +kernel)⟩
theorem lw_p5 : lw_okq (⟨"ArmtowerLine", "bookAt", "(I)LArmtowerLine$Book;"⟩, 14) := ⟨⟨by decide +kernel, by decide +kernel⟩, List.mem_of_getElem? (i := 20) (by decide +kernel), List.mem_of_getElem? (i := 405) (by decide +kernel), List.mem_of_getElem? (i := 406) (by decide +kernel)⟩
theorem lw_p6 : lw_okq (⟨"ArmtowerLine$Book", "phraseAt", "(I)I"⟩, 3) := ⟨⟨by decide +kernel, by decide +kernel⟩, List.mem_of_getElem? (i := 33) (by decide +kernel), List.mem_of_getElem? (i := 414) (by decide +kernel), List.mem_of_getElem? (i := 415) (by decide +kernel)⟩
theorem lw_p7 : lw_okq (⟨"ArmtowerLine$Book", "indexOf", "(I)I"⟩, 3) := ⟨⟨by decide +kernel, by decide +kernel⟩, List.mem_of_getElem? (i := 33) (by decide +kernel), List.mem_of_getElem? (i := 418) (by decide +kernel), List.mem_of_getElem? (i := 419) (by decide +kernel)⟩
theorem lw_p8 : lw_okq (⟨"ArmtowerLine$Book", "put", "(II)Z"⟩, 3) := ⟨⟨by decide +kernel, by decide +kernel⟩, List.mem_of_getElem? (i := 33) (by decide +kernel), List.mem_of_getElem? (i := 422) (by decide +kernel), List.mem_of_getElem? (i := 423) (by decide +kernel)⟩
theorem lw_p9 : lw_okq (⟨"ArmtowerLine$Book", "remove", "(I)V"⟩, 3) := ⟨⟨by decide +kernel, by decide +kernel⟩, List.mem_of_getElem? (i := 33) (by decide +kernel), List.mem_of_getElem? (i := 426) (by decide +kernel), List.mem_of_getElem? (i := 427) (by decide +kernel)⟩
theorem lw_p10 : lw_okq (⟨"ArmtowerLine$Book", "add", "(II)Z"⟩, 3) := ⟨⟨by decide +kernel, by decide +kernel⟩, List.mem_of_getElem? (i := 33) (by decide +kernel), List.mem_of_getElem? (i := 430) (by decide +kernel), List.mem_of_getElem? (i := 431) (by decide +kernel)⟩
theorem lw_p11 : lw_okq (⟨"ArmtowerLine", "layOut", "(LArmtowerLine$Book;Z)I"⟩, 14) := ⟨⟨by decide +kernel, by decide +kernel⟩, List.mem_of_getElem? (i := 20) (by decide +kernel), List.mem_of_getElem? (i := 452) (by decide +kernel), List.mem_of_getElem? (i := 453) (by decide +kernel)⟩
theorem lw_p12 : lw_okq (⟨"ArmtowerLine$Book", "lowestSpotOf", "(I)I"⟩, 3) := ⟨⟨by decide +kernel, by decide +kernel⟩, List.mem_of_getElem? (i := 33) (by decide +kernel), List.mem_of_getElem? (i := 456) (by decide +kernel), List.mem_of_getElem? (i := 457) (by decide +kernel)⟩
theorem lw_p13 : lw_okq (⟨"ArmtowerLine$Arm", "keepAll", "([IIZ)Z"⟩, 5) := ⟨⟨by decide +kernel, by decide +kernel⟩, List.mem_of_getElem? (i := 247) (by decide +kernel), List.mem_of_getElem? (i := 461) (by decide +kernel), List.mem_of_getElem? (i := 462) (by decide +kernel)⟩
theorem lw_p14 : lw_okq (⟨"ArmtowerLine$Tower", "armFor", "(Z)LArmtowerLine$Arm;"⟩, 4) := ⟨⟨by decide +kernel, by decide +kernel⟩, List.mem_of_getElem? (i := 241) (by decide +kernel), List.mem_of_getElem? (i := 476) (by decide +kernel), List.mem_of_getElem? (i := 477) (by decide +kernel)⟩
theorem lw_p15 : lw_okq (⟨"ArmtowerLine", "isEnd", "(IZ)Z"⟩, 14) := ⟨⟨by decide +kernel, by decide +kernel⟩, List.mem_of_getElem? (i := 20) (by decide +kernel), List.mem_of_getElem? (i := 480) (by decide +kernel), List.mem_of_getElem? (i := 481) (by decide +kernel)⟩
def lw_privs_1 : List (MethodName × Nat) := [(⟨"ArmtowerLine", "tapeOf", "(Z)LArmtowerLine$Tape;"⟩, 14), (⟨"java/lang/Throwable", "fillInStackTrace", "(I)Ljava/lang/Throwable;"⟩, 6), (⟨"ArmtowerLine", "stretchAt", "(I)LArmtowerLine$Stretch;"⟩, 14), (⟨"ArmtowerLine$Stretch", "layHill", "(II)Z"⟩, 5), (⟨"ArmtowerLine", "towerAt", "(I)LArmtowerLine$Tower;"⟩, 14), (⟨"ArmtowerLine", "bookAt", "(I)LArmtowerLine$Book;"⟩, 14), (⟨"ArmtowerLine$Book", "phraseAt", "(I)I"⟩, 3), (⟨"ArmtowerLine$Book", "indexOf", "(I)I"⟩, 3), (⟨"ArmtowerLine$Book", "put", "(II)Z"⟩, 3), (⟨"ArmtowerLine$Book", "remove", "(I)V"⟩, 3), (⟨"ArmtowerLine$Book", "add", "(II)Z"⟩, 3), (⟨"ArmtowerLine", "layOut", "(LArmtowerLine$Book;Z)I"⟩, 14), (⟨"ArmtowerLine$Book", "lowestSpotOf", "(I)I"⟩, 3), (⟨"ArmtowerLine$Arm", "keepAll", "([IIZ)Z"⟩, 5), (⟨"ArmtowerLine$Tower", "armFor", "(Z)LArmtowerLine$Arm;"⟩, 4), (⟨"ArmtowerLine", "isEnd", "(IZ)Z"⟩, 14)]
theorem lw_r1 : ∀ q ∈ lw_privs_1, lw_okq q := List.forall_mem_cons.mpr ⟨lw_p0, List.forall_mem_cons.mpr ⟨lw_p1, List.forall_mem_cons.mpr ⟨lw_p2, List.forall_mem_cons.mpr ⟨lw_p3, List.forall_mem_cons.mpr ⟨lw_p4, List.forall_mem_cons.mpr ⟨lw_p5, List.forall_mem_cons.mpr ⟨lw_p6, List.forall_mem_cons.mpr ⟨lw_p7, List.forall_mem_cons.mpr ⟨lw_p8, List.forall_mem_cons.mpr ⟨lw_p9, List.forall_mem_cons.mpr ⟨lw_p10, List.forall_mem_cons.mpr ⟨lw_p11, List.forall_mem_cons.mpr ⟨lw_p12, List.forall_mem_cons.mpr ⟨lw_p13, List.forall_mem_cons.mpr ⟨lw_p14, List.forall_mem_cons.mpr ⟨lw_p15, fun _ h => absurd h List.not_mem_nil⟩⟩⟩⟩⟩⟩⟩⟩⟩⟩⟩⟩⟩⟩⟩⟩
theorem lw_p16 : lw_okq (⟨"ArmtowerLine$Arm", "keepOne", "(I)Z"⟩, 5) := ⟨⟨by decide +kernel, by decide +kernel⟩, List.mem_of_getElem? (i := 247) (by decide +kernel), List.mem_of_getElem? (i := 484) (by decide +kernel), List.mem_of_getElem? (i := 485) (by decide +kernel)⟩
theorem lw_p17 : lw_okq (⟨"ArmtowerLine$Log", "enter", "(IIZ)V"⟩, 4) := ⟨⟨by decide +kernel, by decide +kernel⟩, List.mem_of_getElem? (i := 253) (by decide +kernel), List.mem_of_getElem? (i := 489) (by decide +kernel), List.mem_of_getElem? (i := 490) (by decide +kernel)⟩
theorem lw_p18 : lw_okq (⟨"ArmtowerLine", "passOne", "()V"⟩, 14) := ⟨⟨by decide +kernel, by decide +kernel⟩, List.mem_of_getElem? (i := 20) (by decide +kernel), List.mem_of_getElem? (i := 527) (by decide +kernel), List.mem_of_getElem? (i := 528) (by decide +kernel)⟩
theorem lw_p19 : lw_okq (⟨"ArmtowerLine", "look", "(IZ)V"⟩, 14) := ⟨⟨by decide +kernel, by decide +kernel⟩, List.mem_of_getElem? (i := 20) (by decide +kernel), List.mem_of_getElem? (i := 531) (by decide +kernel), List.mem_of_getElem? (i := 532) (by decide +kernel)⟩
theorem lw_p20 : lw_okq (⟨"ArmtowerLine", "isSeenAlong", "(I)Z"⟩, 14) := ⟨⟨by decide +kernel, by decide +kernel⟩, List.mem_of_getElem? (i := 20) (by decide +kernel), List.mem_of_getElem? (i := 538) (by decide +kernel), List.mem_of_getElem? (i := 539) (by decide +kernel)⟩
theorem lw_p21 : lw_okq (⟨"ArmtowerLine", "isDay", "()Z"⟩, 14) := ⟨⟨by decide +kernel, by decide +kernel⟩, List.mem_of_getElem? (i := 20) (by decide +kernel), List.mem_of_getElem? (i := 542) (by decide +kernel), List.mem_of_getElem? (i := 543) (by decide +kernel)⟩
theorem lw_p22 : lw_okq (⟨"ArmtowerLine$Stretch", "isClear", "(II)Z"⟩, 5) := ⟨⟨by decide +kernel, by decide +kernel⟩, List.mem_of_getElem? (i := 310) (by decide +kernel), List.mem_of_getElem? (i := 546) (by decide +kernel), List.mem_of_getElem? (i := 547) (by decide +kernel)⟩
theorem lw_p23 : lw_okq (⟨"ArmtowerLine", "signAsRead", "(II)I"⟩, 14) := ⟨⟨by decide +kernel, by decide +kernel⟩, List.mem_of_getElem? (i := 20) (by decide +kernel), List.mem_of_getElem? (i := 550) (by decide +kernel), List.mem_of_getElem? (i := 551) (by decide +kernel)⟩
theorem lw_p24 : lw_okq (⟨"ArmtowerLine$Tape", "putOn", "(II)V"⟩, 5) := ⟨⟨by decide +kernel, by decide +kernel⟩, List.mem_of_getElem? (i := 50) (by decide +kernel), List.mem_of_getElem? (i := 554) (by decide +kernel), List.mem_of_getElem? (i := 555) (by decide +kernel)⟩
theorem lw_p25 : lw_okq (⟨"ArmtowerLine$Tape", "begin", "(IZ)V"⟩, 5) := ⟨⟨by decide +kernel, by decide +kernel⟩, List.mem_of_getElem? (i := 50) (by decide +kernel), List.mem_of_getElem? (i := 558) (by decide +kernel), List.mem_of_getElem? (i := 559) (by decide +kernel)⟩
theorem lw_p26 : lw_okq (⟨"ArmtowerLine$Tape", "dropAll", "()V"⟩, 5) := ⟨⟨by decide +kernel, by decide +kernel⟩, List.mem_of_getElem? (i := 50) (by decide +kernel), List.mem_of_getElem? (i := 562) (by decide +kernel), List.mem_of_getElem? (i := 563) (by decide +kernel)⟩
theorem lw_p27 : lw_okq (⟨"ArmtowerLine$Tape", "end", "(I)V"⟩, 5) := ⟨⟨by decide +kernel, by decide +kernel⟩, List.mem_of_getElem? (i := 50) (by decide +kernel), List.mem_of_getElem? (i := 594) (by decide +kernel), List.mem_of_getElem? (i := 595) (by decide +kernel)⟩
theorem lw_p28 : lw_okq (⟨"ArmtowerLine$Dispatch", "add", "(I)V"⟩, 6) := ⟨⟨by decide +kernel, by decide +kernel⟩, List.mem_of_getElem? (i := 565) (by decide +kernel), List.mem_of_getElem? (i := 598) (by decide +kernel), List.mem_of_getElem? (i := 599) (by decide +kernel)⟩
theorem lw_p29 : lw_okq (⟨"ArmtowerLine", "showNext", "(IZ)V"⟩, 14) := ⟨⟨by decide +kernel, by decide +kernel⟩, List.mem_of_getElem? (i := 20) (by decide +kernel), List.mem_of_getElem? (i := 602) (by decide +kernel), List.mem_of_getElem? (i := 603) (by decide +kernel)⟩
theorem lw_p30 : lw_okq (⟨"ArmtowerLine$Arm", "removeFirst", "()I"⟩, 5) := ⟨⟨by decide +kernel, by decide +kernel⟩, List.mem_of_getElem? (i := 247) (by decide +kernel), List.mem_of_getElem? (i := 606) (by decide +kernel), List.mem_of_getElem? (i := 607) (by decide +kernel)⟩
theorem lw_p31 : lw_okq (⟨"ArmtowerLine", "tellSpies", "(II)V"⟩, 14) := ⟨⟨by decide +kernel, by decide +kernel⟩, List.mem_of_getElem? (i := 20) (by decide +kernel), List.mem_of_getElem? (i := 610) (by decide +kernel), List.mem_of_getElem? (i := 611) (by decide +kernel)⟩
def lw_privs_2 : List (MethodName × Nat) := [(⟨"ArmtowerLine$Arm", "keepOne", "(I)Z"⟩, 5), (⟨"ArmtowerLine$Log", "enter", "(IIZ)V"⟩, 4), (⟨"ArmtowerLine", "passOne", "()V"⟩, 14), (⟨"ArmtowerLine", "look", "(IZ)V"⟩, 14), (⟨"ArmtowerLine", "isSeenAlong", "(I)Z"⟩, 14), (⟨"ArmtowerLine", "isDay", "()Z"⟩, 14), (⟨"ArmtowerLine$Stretch", "isClear", "(II)Z"⟩, 5), (⟨"ArmtowerLine", "signAsRead", "(II)I"⟩, 14), (⟨"ArmtowerLine$Tape", "putOn", "(II)V"⟩, 5), (⟨"ArmtowerLine$Tape", "begin", "(IZ)V"⟩, 5), (⟨"ArmtowerLine$Tape", "dropAll", "()V"⟩, 5), (⟨"ArmtowerLine$Tape", "end", "(I)V"⟩, 5), (⟨"ArmtowerLine$Dispatch", "add", "(I)V"⟩, 6), (⟨"ArmtowerLine", "showNext", "(IZ)V"⟩, 14), (⟨"ArmtowerLine$Arm", "removeFirst", "()I"⟩, 5), (⟨"ArmtowerLine", "tellSpies", "(II)V"⟩, 14)]
theorem lw_r2 : ∀ q ∈ lw_privs_2, lw_okq q := List.forall_mem_cons.mpr ⟨lw_p16, List.forall_mem_cons.mpr ⟨lw_p17, List.forall_mem_cons.mpr ⟨lw_p18, List.forall_mem_cons.mpr ⟨lw_p19, List.forall_mem_cons.mpr ⟨lw_p20, List.forall_mem_cons.mpr ⟨lw_p21, List.forall_mem_cons.mpr ⟨lw_p22, List.forall_mem_cons.mpr ⟨lw_p23, List.forall_mem_cons.mpr ⟨lw_p24, List.forall_mem_cons.mpr ⟨lw_p25, List.forall_mem_cons.mpr ⟨lw_p26, List.forall_mem_cons.mpr ⟨lw_p27, List.forall_mem_cons.mpr ⟨lw_p28, List.forall_mem_cons.mpr ⟨lw_p29, List.forall_mem_cons.mpr ⟨lw_p30, List.forall_mem_cons.mpr ⟨lw_p31, fun _ h => absurd h List.not_mem_nil⟩⟩⟩⟩⟩⟩⟩⟩⟩⟩⟩⟩⟩⟩⟩⟩
theorem lw_p32 : lw_okq (⟨"ArmtowerLine$Spy", "note", "(I)V"⟩, 3) := ⟨⟨by decide +kernel, by decide +kernel⟩, List.mem_of_getElem? (i := 500) (by decide +kernel), List.mem_of_getElem? (i := 614) (by decide +kernel), List.mem_of_getElem? (i := 615) (by decide +kernel)⟩
theorem lw_p33 : lw_okq (⟨"ArmtowerLine$Log", "tell", "(II)I"⟩, 4) := ⟨⟨by decide +kernel, by decide +kernel⟩, List.mem_of_getElem? (i := 253) (by decide +kernel), List.mem_of_getElem? (i := 656) (by decide +kernel), List.mem_of_getElem? (i := 657) (by decide +kernel)⟩
theorem lw_p34 : lw_okq (⟨"ArmtowerLine$Log", "nextTaken", "(I)I"⟩, 4) := ⟨⟨by decide +kernel, by decide +kernel⟩, List.mem_of_getElem? (i := 253) (by decide +kernel), List.mem_of_getElem? (i := 670) (by decide +kernel), List.mem_of_getElem? (i := 671) (by decide +kernel)⟩
theorem lw_p35 : lw_okq (⟨"ArmtowerLine", "dispatchAt", "(ZI)LArmtowerLine$Dispatch;"⟩, 14) := ⟨⟨by decide +kernel, by decide +kernel⟩, List.mem_of_getElem? (i := 20) (by decide +kernel), List.mem_of_getElem? (i := 681) (by decide +kernel), List.mem_of_getElem? (i := 682) (by decide +kernel)⟩
theorem lw_p36 : lw_okq (⟨"ArmtowerLine$Dispatch", "tell", "(I)I"⟩, 6) := ⟨⟨by decide +kernel, by decide +kernel⟩, List.mem_of_getElem? (i := 565) (by decide +kernel), List.mem_of_getElem? (i := 686) (by decide +kernel), List.mem_of_getElem? (i := 687) (by decide +kernel)⟩
theorem lw_p37 : lw_okq (⟨"ArmtowerLine$Dispatch", "spots", "()I"⟩, 6) := ⟨⟨by decide +kernel, by decide +kernel⟩, List.mem_of_getElem? (i := 565) (by decide +kernel), List.mem_of_getElem? (i := 690) (by decide +kernel), List.mem_of_getElem? (i := 691) (by decide +kernel)⟩
theorem lw_p38 : lw_okq (⟨"ArmtowerLine", "spyAt", "(I)LArmtowerLine$Spy;"⟩, 14) := ⟨⟨by decide +kernel, by decide +kernel⟩, List.mem_of_getElem? (i := 20) (by decide +kernel), List.mem_of_getElem? (i := 710) (by decide +kernel), List.mem_of_getElem? (i := 711) (by decide +kernel)⟩
theorem lw_p39 : lw_okq (⟨"ArmtowerLineModel", "isStretch", "(I)Z"⟩, 43) := ⟨⟨by decide +kernel, by decide +kernel⟩, List.mem_of_getElem? (i := 744) (by decide +kernel), List.mem_of_getElem? (i := 895) (by decide +kernel), List.mem_of_getElem? (i := 896) (by decide +kernel)⟩
theorem lw_p40 : lw_okq (⟨"ArmtowerLineModel", "isTower", "(I)Z"⟩, 43) := ⟨⟨by decide +kernel, by decide +kernel⟩, List.mem_of_getElem? (i := 744) (by decide +kernel), List.mem_of_getElem? (i := 907) (by decide +kernel), List.mem_of_getElem? (i := 908) (by decide +kernel)⟩
theorem lw_p41 : lw_okq (⟨"ArmtowerLineModel", "spotOf", "(II)I"⟩, 43) := ⟨⟨by decide +kernel, by decide +kernel⟩, List.mem_of_getElem? (i := 744) (by decide +kernel), List.mem_of_getElem? (i := 922) (by decide +kernel), List.mem_of_getElem? (i := 923) (by decide +kernel)⟩
theorem lw_p42 : lw_okq (⟨"ArmtowerLineModel", "makesSigns", "(IZ)I"⟩, 43) := ⟨⟨by decide +kernel, by decide +kernel⟩, List.mem_of_getElem? (i := 744) (by decide +kernel), List.mem_of_getElem? (i := 938) (by decide +kernel), List.mem_of_getElem? (i := 939) (by decide +kernel)⟩
theorem lw_p43 : lw_okq (⟨"ArmtowerLineModel", "lowestSpot", "(II)I"⟩, 43) := ⟨⟨by decide +kernel, by decide +kernel⟩, List.mem_of_getElem? (i := 744) (by decide +kernel), List.mem_of_getElem? (i := 942) (by decide +kernel), List.mem_of_getElem? (i := 943) (by decide +kernel)⟩
theorem lw_p44 : lw_okq (⟨"ArmtowerLineModel", "keepsAt", "(III)V"⟩, 43) := ⟨⟨by decide +kernel, by decide +kernel⟩, List.mem_of_getElem? (i := 744) (by decide +kernel), List.mem_of_getElem? (i := 949) (by decide +kernel), List.mem_of_getElem? (i := 950) (by decide +kernel)⟩
theorem lw_p45 : lw_okq (⟨"ArmtowerLineModel", "isEnd", "(IZ)Z"⟩, 43) := ⟨⟨by decide +kernel, by decide +kernel⟩, List.mem_of_getElem? (i := 744) (by decide +kernel), List.mem_of_getElem? (i := 957) (by decide +kernel), List.mem_of_getElem? (i := 958) (by decide +kernel)⟩
theorem lw_p46 : lw_okq (⟨"ArmtowerLineModel", "writes", "(IIZ)V"⟩, 43) := ⟨⟨by decide +kernel, by decide +kernel⟩, List.mem_of_getElem? (i := 744) (by decide +kernel), List.mem_of_getElem? (i := 961) (by decide +kernel), List.mem_of_getElem? (i := 962) (by decide +kernel)⟩
theorem lw_p47 : lw_okq (⟨"ArmtowerLineModel", "looks", "(IZ)V"⟩, 43) := ⟨⟨by decide +kernel, by decide +kernel⟩, List.mem_of_getElem? (i := 744) (by decide +kernel), List.mem_of_getElem? (i := 973) (by decide +kernel), List.mem_of_getElem? (i := 974) (by decide +kernel)⟩
def lw_privs_3 : List (MethodName × Nat) := [(⟨"ArmtowerLine$Spy", "note", "(I)V"⟩, 3), (⟨"ArmtowerLine$Log", "tell", "(II)I"⟩, 4), (⟨"ArmtowerLine$Log", "nextTaken", "(I)I"⟩, 4), (⟨"ArmtowerLine", "dispatchAt", "(ZI)LArmtowerLine$Dispatch;"⟩, 14), (⟨"ArmtowerLine$Dispatch", "tell", "(I)I"⟩, 6), (⟨"ArmtowerLine$Dispatch", "spots", "()I"⟩, 6), (⟨"ArmtowerLine", "spyAt", "(I)LArmtowerLine$Spy;"⟩, 14), (⟨"ArmtowerLineModel", "isStretch", "(I)Z"⟩, 43), (⟨"ArmtowerLineModel", "isTower", "(I)Z"⟩, 43), (⟨"ArmtowerLineModel", "spotOf", "(II)I"⟩, 43), (⟨"ArmtowerLineModel", "makesSigns", "(IZ)I"⟩, 43), (⟨"ArmtowerLineModel", "lowestSpot", "(II)I"⟩, 43), (⟨"ArmtowerLineModel", "keepsAt", "(III)V"⟩, 43), (⟨"ArmtowerLineModel", "isEnd", "(IZ)Z"⟩, 43), (⟨"ArmtowerLineModel", "writes", "(IIZ)V"⟩, 43), (⟨"ArmtowerLineModel", "looks", "(IZ)V"⟩, 43)]
theorem lw_r3 : ∀ q ∈ lw_privs_3, lw_okq q := List.forall_mem_cons.mpr ⟨lw_p32, List.forall_mem_cons.mpr ⟨lw_p33, List.forall_mem_cons.mpr ⟨lw_p34, List.forall_mem_cons.mpr ⟨lw_p35, List.forall_mem_cons.mpr ⟨lw_p36, List.forall_mem_cons.mpr ⟨lw_p37, List.forall_mem_cons.mpr ⟨lw_p38, List.forall_mem_cons.mpr ⟨lw_p39, List.forall_mem_cons.mpr ⟨lw_p40, List.forall_mem_cons.mpr ⟨lw_p41, List.forall_mem_cons.mpr ⟨lw_p42, List.forall_mem_cons.mpr ⟨lw_p43, List.forall_mem_cons.mpr ⟨lw_p44, List.forall_mem_cons.mpr ⟨lw_p45, List.forall_mem_cons.mpr ⟨lw_p46, List.forall_mem_cons.mpr ⟨lw_p47, fun _ h => absurd h List.not_mem_nil⟩⟩⟩⟩⟩⟩⟩⟩⟩⟩⟩⟩⟩⟩⟩⟩
theorem lw_p48 : lw_okq (⟨"ArmtowerLineModel", "seesAlong", "(I)Z"⟩, 43) := ⟨⟨by decide +kernel, by decide +kernel⟩, List.mem_of_getElem? (i := 744) (by decide +kernel), List.mem_of_getElem? (i := 977) (by decide +kernel), List.mem_of_getElem? (i := 978) (by decide +kernel)⟩
theorem lw_p49 : lw_okq (⟨"ArmtowerLineModel", "isDay", "()Z"⟩, 43) := ⟨⟨by decide +kernel, by decide +kernel⟩, List.mem_of_getElem? (i := 744) (by decide +kernel), List.mem_of_getElem? (i := 981) (by decide +kernel), List.mem_of_getElem? (i := 982) (by decide +kernel)⟩
theorem lw_p50 : lw_okq (⟨"ArmtowerLineModel", "reads", "(II)I"⟩, 43) := ⟨⟨by decide +kernel, by decide +kernel⟩, List.mem_of_getElem? (i := 744) (by decide +kernel), List.mem_of_getElem? (i := 988) (by decide +kernel), List.mem_of_getElem? (i := 989) (by decide +kernel)⟩
theorem lw_p51 : lw_okq (⟨"ArmtowerLineModel", "tapes", "(II)V"⟩, 43) := ⟨⟨by decide +kernel, by decide +kernel⟩, List.mem_of_getElem? (i := 744) (by decide +kernel), List.mem_of_getElem? (i := 992) (by decide +kernel), List.mem_of_getElem? (i := 993) (by decide +kernel)⟩
theorem lw_p52 : lw_okq (⟨"ArmtowerLineModel", "opens", "(IZ)V"⟩, 43) := ⟨⟨by decide +kernel, by decide +kernel⟩, List.mem_of_getElem? (i := 744) (by decide +kernel), List.mem_of_getElem? (i := 996) (by decide +kernel), List.mem_of_getElem? (i := 997) (by decide +kernel)⟩
theorem lw_p53 : lw_okq (⟨"ArmtowerLineModel", "ends", "(I)V"⟩, 43) := ⟨⟨by decide +kernel, by decide +kernel⟩, List.mem_of_getElem? (i := 744) (by decide +kernel), List.mem_of_getElem? (i := 1000) (by decide +kernel), List.mem_of_getElem? (i := 1001) (by decide +kernel)⟩
theorem lw_p54 : lw_okq (⟨"ArmtowerLineModel", "turnsTo", "(IZI)V"⟩, 43) := ⟨⟨by decide +kernel, by decide +kernel⟩, List.mem_of_getElem? (i := 744) (by decide +kernel), List.mem_of_getElem? (i := 1004) (by decide +kernel), List.mem_of_getElem? (i := 1005) (by decide +kernel)⟩
theorem lw_p55 : lw_okq (⟨"ArmtowerLineModel", "spies", "(II)V"⟩, 43) := ⟨⟨by decide +kernel, by decide +kernel⟩, List.mem_of_getElem? (i := 744) (by decide +kernel), List.mem_of_getElem? (i := 1008) (by decide +kernel), List.mem_of_getElem? (i := 1009) (by decide +kernel)⟩
theorem lw_p56 : lw_okq (⟨"ArmtowerLineModel", "nextRead", "(II)I"⟩, 43) := ⟨⟨by decide +kernel, by decide +kernel⟩, List.mem_of_getElem? (i := 744) (by decide +kernel), List.mem_of_getElem? (i := 1044) (by decide +kernel), List.mem_of_getElem? (i := 1045) (by decide +kernel)⟩
def lw_privs_4 : List (MethodName × Nat) := [(⟨"ArmtowerLineModel", "seesAlong", "(I)Z"⟩, 43), (⟨"ArmtowerLineModel", "isDay", "()Z"⟩, 43), (⟨"ArmtowerLineModel", "reads", "(II)I"⟩, 43), (⟨"ArmtowerLineModel", "tapes", "(II)V"⟩, 43), (⟨"ArmtowerLineModel", "opens", "(IZ)V"⟩, 43), (⟨"ArmtowerLineModel", "ends", "(I)V"⟩, 43), (⟨"ArmtowerLineModel", "turnsTo", "(IZI)V"⟩, 43), (⟨"ArmtowerLineModel", "spies", "(II)V"⟩, 43), (⟨"ArmtowerLineModel", "nextRead", "(II)I"⟩, 43)]
theorem lw_r4 : ∀ q ∈ lw_privs_4, lw_okq q := List.forall_mem_cons.mpr ⟨lw_p48, List.forall_mem_cons.mpr ⟨lw_p49, List.forall_mem_cons.mpr ⟨lw_p50, List.forall_mem_cons.mpr ⟨lw_p51, List.forall_mem_cons.mpr ⟨lw_p52, List.forall_mem_cons.mpr ⟨lw_p53, List.forall_mem_cons.mpr ⟨lw_p54, List.forall_mem_cons.mpr ⟨lw_p55, List.forall_mem_cons.mpr ⟨lw_p56, fun _ h => absurd h List.not_mem_nil⟩⟩⟩⟩⟩⟩⟩⟩⟩
def lw_privs : List (MethodName × Nat) := lw_privs_1 ++ (lw_privs_2 ++ (lw_privs_3 ++ (lw_privs_4)))
def lw_tbl : List Cond := k2_sels lw_privs ++ tables_1
theorem lw_privs_ok : ∀ q ∈ lw_privs, lw_okq q := by
  show ∀ q ∈ lw_privs_1 ++ (lw_privs_2 ++ (lw_privs_3 ++ (lw_privs_4))), lw_okq q
  exact List.forall_mem_append.mpr ⟨lw_r1, List.forall_mem_append.mpr ⟨lw_r2, List.forall_mem_append.mpr ⟨lw_r3, lw_r4⟩⟩⟩
-- ===== end of PART A; then your names; then what follows =====
end
section
/-! ===== BEGIN words of one list among another's, by their places ===== -/
theorem goodIn_r {big : List Cond} (ws : List Cond) (ps : List Nat) (hp : ws = ps.filterMap (fun i => big[i]?)) (h : ws.all goodWord = true) : GoodIn big ws := by
  intro w hw
  have h1 := List.all_eq_true.mp h w hw
  rw [hp] at hw
  obtain ⟨i, -, hi⟩ := List.mem_filterMap.mp hw
  have hm : w ∈ big := by first | exact List.mem_of_getElem? hi | exact List.getElem?_mem hi
  exact ⟨hm, good_of_word h1⟩
theorem goodIn_app {big a b : List Cond} (ha : GoodIn big a) (hb : GoodIn big b) : GoodIn big (a ++ b) := fun w h => (List.mem_append.mp h).elim (ha w) (hb w)
theorem goodIn_ca {big a b : List Cond} {c : Cond} (ha : GoodIn big (c :: a)) (hb : GoodIn big b) : GoodIn big (c :: (a ++ b)) := fun w h => (List.mem_cons.mp h).elim (fun e => ha w (List.mem_cons.mpr (Or.inl e))) (fun h => (List.mem_append.mp h).elim (fun h => ha w (List.mem_cons.mpr (Or.inr h))) (hb w))
theorem goodIn_sub {big ws : List Cond} (hm : ∀ w ∈ ws, w ∈ big) (h : ws.all goodWord = true) : GoodIn big ws := fun w hw => ⟨hm w hw, good_of_word (List.all_eq_true.mp h w hw)⟩
/-! ===== END ===== -/

/-! ===== BEGIN exceptions that leave a method, and their catching by the caller (launches without stack traces) ===== -/
section VXA
/-! The laws vx_back, vx_callV, vx_callS, vx_callSW, vx_throw0, vx_throwS follow proofs of the library, with one case more: JvmDerived/Free/Laws.lean (Back.of_free), Shelf42/LK1.lean (callV, callS), Shelf/KitTraced.lean (throwNew0V, throwNewS). -/
/-- where a method has thrown q: the class by its name, the cell, what was written, the world -/
def vx_T (XC : String → State → State → Prop) (st : State) (q : Addr) (t : State) (mc ms : Nat) (free : Addr → Prop) : Prop :=
  ∃ (E : String) (ce : Cell) (L : List Loc), XC E st t ∧ t.heap[q]? = some ce ∧ ce.vm = .none ∧ st.vm.findClass E = some ce.cls ∧ st.WarmedH t.vm ∧ st.sameButNew ({ t with vm := st.vm } : State) L mc ms ∧ ∀ z ∈ L, free z.base
def vx_Q (Qc : Array Value → State → Outcome → State → Prop) (XC : String → State → State → Prop) (mc ms : Nat) (free : Addr → Prop) : Array Value → State → Outcome → State → Prop := fun a st o t =>
  (Qc a st o t ∧ ∃ L, FrameEnd st o t L mc ms ∧ ∀ q ∈ L, free q.base) ∨ ∃ q, o = .threw q ∧ vx_T XC st q t mc ms free
/-- a callee that returns or throws -/
def vx_Met (l : Launch) (y : MethodName) (ws : List Cond) (rm : Room) (Pc : Array Value → State → Prop) (Qc : Array Value → State → Outcome → State → Prop) (XC : String → State → State → Prop) (mc ms : Nat) (free : Addr → Prop) : Prop :=
  MetFree l y (headSpec ws rm) Pc (fun _ _ _ _ _ => True) (vx_Q Qc XC mc ms free)
def vx_Post (XC : String → State → State → Prop) (mc ms : Nat) (free : Addr → Prop) : Pt → Array Value → Addr → Pt → Prop := fun A a q B =>
  ∃ (g : JFrame) (mk : MethodId) (t : State) (L : List Loc) (E : String) (ce : Cell), B.U.heap = t.heap ∧ B.U.vm = t.vm ∧ XC E (A.U.calling g mk a) t ∧ t.heap[q]? = some ce ∧ ce.vm = .none ∧ A.U.vm.findClass E = some ce.cls ∧ B.locs = A.locs ++ L ∧ (∀ z ∈ L, free z.base) ∧ B.cells = A.cells + mc ∧ B.slots = A.slots + ms
def vx_Back (l : Launch) (R : Room) (p : Program) (e : Env) (below : List Frame) (s : State) (sargs : Array Value) (y : MethodName) (len W9 : Nat)
    (Pre : Pt → Array Value → Prop) (Post : Pt → Array Value → Option Value → Pt → Prop) (PostX : Pt → Array Value → Addr → Pt → Prop) : Prop :=
  ∀ (m : MethodId) (meth : Method) (c : Code) (A : Pt) (g : JFrame) (ig : Instr) (mk : MethodId) (a : Array Value),
    Stand p l e R s m sargs below meth c A.U A.locs A.cells A.slots → g.method = m → g.locals.size = c.maxLocals → decode c.code g.pc = .ok (ig, len) →
    2 * g.monitorRoom + (g.stack.map fun v => v.category).sum ≤ W9 → A.U.methodNamed? y = some mk → Pre A a →
    (∃ (v : Option Value) (B : Pt), Stand p l e R s m sargs below meth c B.U B.locs B.cells B.slots ∧ Post A a v B ∧
      Steps p.tables e below (doInvoke e (A.U.setTop g) [] mk a).1 (B.U.setTop { g with pc := g.pc + len, stack := v.toList ++ g.stack })) ∨
    (∃ (q : Addr) (B : Pt), Stand p l e R s m sargs below meth c B.U B.locs B.cells B.slots ∧ PostX A a q B ∧
      Steps p.tables e below (doInvoke e (A.U.setTop g) [] mk a).1 ((B.U.setTop g).pushFrame (.throwing q)))
section Payer
variable {l : Launch} {R : Room} {p : Program} {e : Env} {below : List Frame} {s : State} {sargs : Array Value} {y : MethodName} {len W9 : Nat}
theorem vx_back {ws : List Cond} {rm : Room} {Pc : Array Value → State → Prop} {Qc : Array Value → State → Outcome → State → Prop} {XC : String → State → State → Prop} {mc ms : Nat} {free : Addr → Prop} {bytes : ByteArray} {maxL : Nat} {ret : Option FieldType}
    (hM : vx_Met l y ws rm Pc Qc XC mc ms free) (hblind : FrameBlind Pc) (hrc : rm.cells = mc) (hrs : rm.slots = ms)
    (hframes : rm.frames + 1 ≤ R.frames) (hlocals : W9 + (maxL + 11) + rm.locals ≤ R.locals)
    (hws : ∀ w ∈ ws, ∀ a' U, s.WarmedH U.vm → w.before a' U = true) (hcode : Cond.code y bytes maxL ret ∈ ws) (hinit : ∀ a' U, s.WarmedH U.vm → (Cond.initialized y.cls).before a' U = true) :
    vx_Back l R p e below s sargs y len W9 (PreOf R mc ms Pc) (PostOf Qc mc ms free) (vx_Post XC mc ms free) := by
  intro m meth c A g ig mk a X hg hsize hdg hW hn hp
  have h1 : (headSpec ws rm).pre.before a A.U = true := atoms_intro fun w hw => hws w hw _ _ X.warmed
  have h2 : (Cond.code y bytes maxL ret).before a A.U = true := hws _ hcode _ _ X.warmed
  have h3 : (Cond.initialized y.cls).before a A.U = true := hinit _ _ X.warmed
  have h4 : A.cells + (headSpec ws rm).room.cells ≤ R.cells := by rw [show (headSpec ws rm).room.cells = mc from hrc]; exact hp.1
  have h5 : A.slots + (headSpec ws rm).room.slots ≤ R.slots := by rw [show (headSpec ws rm).room.slots = ms from hrs]; exact hp.2.1
  have hPc : Pc a (A.U.calling g mk a) := hblind _ _ _ _ hp.2.2
  obtain ⟨U, Ls, c0, s0⟩ := A
  dsimp only [Pt.U, Pt.locs, Pt.cells, Pt.slots] at h1 h2 h3 h4 h5 X hn hPc ⊢
  obtain ⟨methY, cY, hmY, hcY, -, hlY, -, -, -, -⟩ := Cond.code_spec hn h2
  obtain ⟨kY, hkY, -⟩ := className_of_methodNamed hn
  have hinitY : kY.init = .initialized := Cond.initialized_spec (findClass_of_methodNamed hn) hkY h3
  have h : At U g.method c below := by rw [hg]; exact X.here
  have hlocals9 : W9 + (maxL + 11) + (headSpec ws rm).room.locals ≤ R.locals := hlocals
  have happ : (headSpec ws rm).appliesLoose y e.platform (U.calling g mk a) = true :=
    Spec.appliesLoose_calling (g := g) h hdg hn hkY hinitY
      (X.room_calling (g := g) (R' := (headSpec ws rm).room) hsize hmY hcY hframes (by rw [hlY]; omega) h4 h5) h1
  obtain ⟨mid, hmid⟩ := h.above
  have hfr : (U.setTop g).frames = (.java g :: mid) ++ below := by rw [State.frames_setTop' g h.top, hmid]; rfl
  obtain ⟨o, s₂, hsteps, -, hend, hq⟩ := Steps.callFree hM p X.admits X.cas X.clock (acts := []) hfr happ hPc trivial
  have hq' : vx_Q Qc XC mc ms free a (U.calling g mk a) o s₂ := hq
  rw [State.frames_setTop' g h.top] at hend
  obtain ⟨g₀, hg0⟩ := Option.isSome_iff_exists.mp h.top
  obtain ⟨r, hr⟩ := State.topJava?_eq_some.mp hg0
  have hr' : (({ U with heap := s₂.heap, slotsUsed := s₂.slotsUsed } : State).setVm s₂.vm).frames = .java g₀ :: r := hr
  rcases hq' with ⟨hqc, L, hfe, hL⟩ | ⟨q, rfl, E, ce, L, hx, hce, hcv, hcl, hW₂, hsm, hL⟩
  · obtain ⟨⟨v, rfl⟩, hW₂, e2, q2, q3, q4, q5, q6⟩ := id hfe
    have e3 : s₂ = ({ (U.calling g mk a).setFrames s₂.frames with heap := s₂.heap, slotsUsed := s₂.slotsUsed } : State).setVm s₂.vm := by
      have : s₂ = ({ s₂ with vm := (U.calling g mk a).vm } : State).setVm s₂.vm := rfl
      rw [e2] at this
      exact this
    obtain ⟨c₂, i₂, len₂, hc₂, hd₂, hf₂⟩ := hend
    have hW' : U.WarmedH s₂.vm := hW₂
    have hcc : c₂ = c := by
      have h1 : s₂.code? g.method = U.code? g.method := by
        rw [State.code?_eq, State.code?_eq, hW'.alike.method?]
      exact Option.some.inj (hc₂.symm.trans (h1.trans h.code))
    subst hcc
    have hlen : len₂ = len := by rw [hdg] at hd₂; cases hd₂; rfl
    subst hlen
    have hs₂ : s₂ = (({ U with heap := s₂.heap, slotsUsed := s₂.slotsUsed } : State).setVm s₂.vm).setTop { g with pc := g.pc + len₂, stack := v.toList ++ g.stack } := by
      refine e3.trans ?_
      rw [hf₂, State.calling_eq h.top, State.setFrames_setFrames, State.setTop_of_frames _ hr', hr]
      rfl
    have hsame : U.sameButNew ({ U with heap := s₂.heap, slotsUsed := s₂.slotsUsed } : State) L mc ms := by
      refine ⟨?_, q2, q3, q4, q5, q6⟩
      obtain ⟨t, ht, -⟩ := State.frames_cons hr
      show ({ U with heap := s₂.heap, slotsUsed := s₂.slotsUsed } : State) = { U.setFrames U.frames with heap := s₂.heap, slotsUsed := s₂.slotsUsed }
      rw [State.setFrames_self ht]
    subst hg
    refine Or.inl ⟨v, ⟨(({ U with heap := s₂.heap, slotsUsed := s₂.slotsUsed } : State).setVm s₂.vm), Ls ++ L, c0 + mc, s0 + ms⟩,
      ⟨X.admits, X.cas, X.clock, X.frames, X.room, X.hears, X.method, X.code, (X.here.setHeapUsed s₂.heap s₂.slotsUsed).setVm hW'.alike, X.tail, State.WarmedH.trans X.warmed hW', X.limits, X.bytes, X.same.trans (hsame.setVm s.vm)⟩,
      ⟨g, mk, s₂, L, rfl, rfl, hqc, rfl, hL, rfl, rfl⟩, ?_⟩
    show Steps p.tables e below _ ((({ U with heap := s₂.heap, slotsUsed := s₂.slotsUsed } : State).setVm s₂.vm).setTop { g with pc := g.pc + len₂, stack := v.toList ++ g.stack })
    rw [← hs₂]
    exact hsteps
  · obtain ⟨e2, q2, q3, q4, q5, q6⟩ := id hsm
    have e3 : s₂ = ({ (U.calling g mk a).setFrames s₂.frames with heap := s₂.heap, slotsUsed := s₂.slotsUsed } : State).setVm s₂.vm := by
      have : s₂ = ({ s₂ with vm := (U.calling g mk a).vm } : State).setVm s₂.vm := rfl
      rw [e2] at this
      exact this
    have hf₂ : s₂.frames = .throwing q :: .java g :: U.frames.tail := hend
    have hW' : U.WarmedH s₂.vm := hW₂
    have hs₂ : s₂ = ((({ U with heap := s₂.heap, slotsUsed := s₂.slotsUsed } : State).setVm s₂.vm).setTop g).pushFrame (.throwing q) := by
      refine e3.trans ?_
      rw [hf₂, State.calling_eq h.top, State.setFrames_setFrames, State.pushFrame, State.frames_setTop _ hr', State.setTop_of_frames _ hr', State.setFrames_setFrames, hr]
      rfl
    have hsame : U.sameButNew ({ U with heap := s₂.heap, slotsUsed := s₂.slotsUsed } : State) L mc ms := by
      refine ⟨?_, q2, q3, q4, q5, q6⟩
      obtain ⟨t, ht, -⟩ := State.frames_cons hr
      show ({ U with heap := s₂.heap, slotsUsed := s₂.slotsUsed } : State) = { U.setFrames U.frames with heap := s₂.heap, slotsUsed := s₂.slotsUsed }
      rw [State.setFrames_self ht]
    subst hg
    refine Or.inr ⟨q, ⟨(({ U with heap := s₂.heap, slotsUsed := s₂.slotsUsed } : State).setVm s₂.vm), Ls ++ L, c0 + mc, s0 + ms⟩,
      ⟨X.admits, X.cas, X.clock, X.frames, X.room, X.hears, X.method, X.code, (X.here.setHeapUsed s₂.heap s₂.slotsUsed).setVm hW'.alike, X.tail, State.WarmedH.trans X.warmed hW', X.limits, X.bytes, X.same.trans (hsame.setVm s.vm)⟩,
      ⟨g, mk, s₂, L, E, ce, rfl, rfl, hx, hce, hcv, hcl, rfl, hL, rfl, rfl⟩, ?_⟩
    show Steps p.tables e below _ (((({ U with heap := s₂.heap, slotsUsed := s₂.slotsUsed } : State).setVm s₂.vm).setTop g).pushFrame (.throwing q))
    rw [← hs₂]
    exact hsteps
end Payer
section Calls
variable {p : Program} {l : Launch} {e : Env} {R : Room} {s : State} {m : MethodId} {args : Array Value} {below : List Frame} {meth : Method} {c : Code} {T : State} {locs : List Loc} {cells slots : Nat}
theorem vx_callV (X : Stand p l e R s m args below meth c T locs cells slots) (hexec : p.tables.exec = Jvm.exec) {own C : String} {index : Nat} {y : MethodName} {bytes : ByteArray} {maxL : Nat} {ret : Option FieldType}
    (hown : s.vm.findClass own = some m.cls) (hlink : (Cond.methodLink own index y).before args s = true) (hinst : (Cond.instanceMethod y).before args s = true) (hsel : (Cond.selects C y y).before args s = true)
    (hcode : (Cond.code y bytes maxL ret).before args s = true) (hy : y.cls ≠ "java/lang/invoke/MethodHandle" ∧ y.cls ≠ "java/lang/invoke/VarHandle")
    {W9 : Nat} {Pre : Pt → Array Value → Prop} {Post : Pt → Array Value → Option Value → Pt → Prop} {PostX : Pt → Array Value → Addr → Pt → Prop} (hK : vx_Back l R p e below s args y 3 W9 Pre Post PostX)
    {b : Addr} {cellB : Cell} (hcell : T.heap[b]? = some cellB) (hobj : cellB.vm.isStatics = false) (hcls : s.vm.findClass C = some cellB.cls)
    {g : JFrame} (hg : g.method = m) (hsize : g.locals.size = c.maxLocals) {argsL rest : List Value} (hlen : ∀ sig, parseMethodDescriptor y.desc = some sig → argsL.length = sig.parameters.length)
    (hstack : g.stack = argsL.reverse ++ .ref b :: rest) (hW : 2 * g.monitorRoom + (rest.map fun v => v.category).sum ≤ W9) (hdg : decode c.code g.pc = .ok (.invokevirtual index, 3))
    (hpre : ∀ vm₁, s.WarmedH vm₁ → Pre ⟨T.setVm vm₁, locs, cells, slots⟩ (Value.ref b :: argsL).toArray) :
    (∃ (v : Option Value) (vm₁ : Vm) (B : Pt), s.WarmedH vm₁ ∧ Stand p l e R s m args below meth c B.U B.locs B.cells B.slots ∧ Post ⟨T.setVm vm₁, locs, cells, slots⟩ (Value.ref b :: argsL).toArray v B ∧
      ∀ target, Steps p.tables e below (B.U.setTop { g with pc := g.pc + 3, stack := v.toList ++ rest }) target → Steps p.tables e below (T.setTop g) target) ∨
    (∃ (q : Addr) (vm₁ : Vm) (B : Pt), s.WarmedH vm₁ ∧ Stand p l e R s m args below meth c B.U B.locs B.cells B.slots ∧ PostX ⟨T.setVm vm₁, locs, cells, slots⟩ (Value.ref b :: argsL).toArray q B ∧
      Steps p.tables e below (T.setTop g) ((B.U.setTop { g with stack := rest }).pushFrame (.throwing q))) := by
  obtain ⟨mk, methM, hnamed, hmethM, hstM, habM⟩ := Cond.instanceMethod_spec hinst
  obtain ⟨methM', cM, hmethM', -, -, -, -, -, -, hsigM⟩ := Cond.code_spec hnamed hcode
  cases hmethM.symm.trans hmethM'
  obtain ⟨c2, r2, m2, q1, q2, q3, q4, kP, hkP, hkPi⟩ := Cond.selects_spec hsel
  cases hcls.symm.trans q1
  cases (State.methodFound?_of_named hnamed hy).symm.trans q2
  cases hnamed.symm.trans q3
  have hselP : selectMethod e.platform s.vm cellB.cls mk = .method mk := by rw [Launch.admits_selectMethod X.admits]; exact q4
  obtain ⟨vm₁, X₁, hstep₁⟩ := X.invokevirtual hexec hown hlink hnamed hmethM hstM hkP hkPi hy (a := b) (cell := cellB) hcell
    (fun z h => by rw [h] at hobj; cases hobj) hselP hmethM habM hkP hkPi (g := g) hg (argsL := argsL) (rest := rest) (hlen _ hsigM) hstack hdg
  rcases hK m meth c ⟨T.setVm vm₁, locs, cells, slots⟩ { g with stack := rest } (.invokevirtual index) mk (Value.ref b :: argsL).toArray X₁ hg hsize hdg hW (X₁.named hnamed) (hpre vm₁ X₁.warmed) with ⟨v, B, X', hpost, hsteps⟩ | ⟨q, B, X', hpost, hsteps⟩
  · exact Or.inl ⟨v, vm₁, B, X₁.warmed, X', hpost, fun target h => hstep₁ _ fun acts => by rw [doInvoke_state]; exact hsteps.trans h⟩
  · exact Or.inr ⟨q, vm₁, B, X₁.warmed, X', hpost, hstep₁ _ fun acts => by rw [doInvoke_state]; exact hsteps⟩
theorem vx_callS (X : Stand p l e R s m args below meth c T locs cells slots) (hexec : p.tables.exec = Jvm.exec) {own : String} {index : Nat} {y : MethodName} {bytes : ByteArray} {maxL : Nat} {ret : Option FieldType}
    (hown : s.vm.findClass own = some m.cls) (hlink : (Cond.methodLink own index y).before args s = true) (hstat : (Cond.static y).before args s = true) (hinit : (Cond.initialized y.cls).before args s = true)
    (hcode : (Cond.code y bytes maxL ret).before args s = true) (hy : y.cls ≠ "java/lang/invoke/MethodHandle" ∧ y.cls ≠ "java/lang/invoke/VarHandle")
    {W9 : Nat} {Pre : Pt → Array Value → Prop} {Post : Pt → Array Value → Option Value → Pt → Prop} {PostX : Pt → Array Value → Addr → Pt → Prop} (hK : vx_Back l R p e below s args y 3 W9 Pre Post PostX)
    {g : JFrame} (hg : g.method = m) (hsize : g.locals.size = c.maxLocals) {argsL rest : List Value} (hlen : ∀ sig, parseMethodDescriptor y.desc = some sig → argsL.length = sig.parameters.length)
    (hstack : g.stack = argsL.reverse ++ rest) (hW : 2 * g.monitorRoom + (rest.map fun v => v.category).sum ≤ W9) (hdg : decode c.code g.pc = .ok (.invokestatic index, 3))
    (hpre : ∀ vm₁, s.WarmedH vm₁ → Pre ⟨T.setVm vm₁, locs, cells, slots⟩ argsL.toArray) :
    (∃ (v : Option Value) (vm₁ : Vm) (B : Pt), s.WarmedH vm₁ ∧ Stand p l e R s m args below meth c B.U B.locs B.cells B.slots ∧ Post ⟨T.setVm vm₁, locs, cells, slots⟩ argsL.toArray v B ∧
      ∀ target, Steps p.tables e below (B.U.setTop { g with pc := g.pc + 3, stack := v.toList ++ rest }) target → Steps p.tables e below (T.setTop g) target) ∨
    (∃ (q : Addr) (vm₁ : Vm) (B : Pt), s.WarmedH vm₁ ∧ Stand p l e R s m args below meth c B.U B.locs B.cells B.slots ∧ PostX ⟨T.setVm vm₁, locs, cells, slots⟩ argsL.toArray q B ∧
      Steps p.tables e below (T.setTop g) ((B.U.setTop { g with stack := rest }).pushFrame (.throwing q))) := by
  obtain ⟨mk, hnamed⟩ := Cond.code_named hcode
  obtain ⟨methM, cM, hmethM, -, -, -, -, -, -, hsigM⟩ := Cond.code_spec hnamed hcode
  have hstatic : methM.isStatic = true := Cond.static_spec hnamed hmethM hstat
  obtain ⟨kP, hkP, -⟩ := className_of_methodNamed hnamed
  have hinitP : kP.init = .initialized := Cond.initialized_spec (findClass_of_methodNamed hnamed) hkP hinit
  obtain ⟨vm₁, X₁, hstep₁⟩ := X.invokestatic hexec hown hlink hnamed hmethM hstatic hkP hinitP hy (g := g) hg (argsL := argsL) (rest := rest) (hlen _ hsigM) hstack hdg
  rcases hK m meth c ⟨T.setVm vm₁, locs, cells, slots⟩ { g with stack := rest } (.invokestatic index) mk argsL.toArray X₁ hg hsize hdg hW (X₁.named hnamed) (hpre vm₁ X₁.warmed) with ⟨v, B, X', hpost, hsteps⟩ | ⟨q, B, X', hpost, hsteps⟩
  · exact Or.inl ⟨v, vm₁, B, X₁.warmed, X', hpost, fun target h => hstep₁ _ fun acts => by rw [doInvoke_state]; exact hsteps.trans h⟩
  · exact Or.inr ⟨q, vm₁, B, X₁.warmed, X', hpost, hstep₁ _ fun acts => by rw [doInvoke_state]; exact hsteps⟩
end Calls
theorem vx_cls {s : State} {T : State} {vm₁ : Vm} {E : String} {k : ClassId} (hW : s.WarmedH vm₁) (h : (T.setVm vm₁).vm.findClass E = some k) : s.vm.findClass E = some k := by
  have h1 : vm₁.findClass E = some k := h
  rw [hW.alike.findClass] at h1
  exact h1
/-- the method's frame g, with q thrown over it -/
def vx_W (p : Program) (l : Launch) (e : Env) (R : Room) (s : State) (m : MethodId) (args : Array Value) (below : List Frame) (meth : Method) (c : Code) (H : Heap) (locs : List Loc) (cells slots : Nat) (Q : State → Prop) (g : JFrame) (q : Addr) : Prop :=
  ∀ T : State, T.heap = H → Stand p l e R s m args below meth c T locs cells slots → ∃ t, Steps p.tables e below ((T.setTop g).pushFrame (.throwing q)) t ∧ Q t
def vx_Run (p : Program) (l : Launch) (e : Env) (R : Room) (s : State) (m : MethodId) (args : Array Value) (below : List Frame) (meth : Method) (c : Code) (H : Heap) (locs : List Loc) (cells slots mc ms : Nat) (g : JFrame) (rest : List Value) (Qa : State → Outcome → State → Prop) (XC : String → State → State → Prop) (free : Addr → Prop) : Prop :=
  ∀ T : State, T.heap = H → Stand p l e R s m args below meth c T locs cells slots →
    (∃ (v : Option Value) (st₀ t T' : State) (L : List Loc), st₀.heap = H ∧ Stand p l e R s m args below meth c T' (locs ++ L) (cells + mc) (slots + ms) ∧ (∀ q ∈ L, free q.base) ∧ T'.heap = t.heap ∧ T'.vm = t.vm ∧ Qa st₀ (.returned v) t ∧
      Goes p e below T g T' { g with pc := g.pc + 3, stack := v.toList ++ rest }) ∨
    (∃ (q : Addr) (st₀ t T' : State) (L : List Loc) (E : String) (ce : Cell), st₀.heap = H ∧ Stand p l e R s m args below meth c T' (locs ++ L) (cells + mc) (slots + ms) ∧ (∀ z ∈ L, free z.base) ∧ T'.heap = t.heap ∧ T'.vm = t.vm ∧ XC E st₀ t ∧ t.heap[q]? = some ce ∧ ce.vm = .none ∧ s.vm.findClass E = some ce.cls ∧
      Steps p.tables e below (T.setTop g) ((T'.setTop { g with stack := rest }).pushFrame (.throwing q)))
def vx_X {S : Type} (px : S → Prop) (B : String → S → State → Prop) (A : Nat → Prop) : String → State → State → Prop := fun E st t => ∃ u : S, px u ∧ B E u t ∧ va_F A st t
section Runs
variable {p : Program} {l : Launch} {e : Env} {R : Room} {s : State} {m : MethodId} {args : Array Value} {below : List Frame} {meth : Method} {c : Code} {H : Heap} {locs : List Loc} {cells slots : Nat}
variable {y : MethodName} {bytes cc : ByteArray} {maxL nL mc ms n index : Nat} {ret : Option FieldType} {ws : List Cond} {rm : Room} {Pc : Array Value → State → Prop} {Qc : Array Value → State → Outcome → State → Prop} {XC : String → State → State → Prop} {free : Addr → Prop} {Ts : List Cond} {own C : String} {b : Addr} {As rest : List Value} {g : JFrame}
theorem vx_callBack (cb : CallB R s args own index y bytes maxL ret ws rm mc ms n) (hM : vx_Met l y ws rm Pc Qc XC mc ms free) (hbl : FrameBlind Pc) : vx_Back l R p e below s args y 3 8 (PreOf R mc ms Pc) (PostOf Qc mc ms free) (vx_Post XC mc ms free) := by
  obtain ⟨hrc, hrs, hfr, hlo, hws, hcw, -, hini, -⟩ := cb
  exact vx_back (bytes := bytes) (maxL := maxL) (ret := ret) hM hbl hrc hrs hfr hlo hws hcw (fun a' U hW => word_at hW (Or.inl (by first | rfl | simp [Cond.onTables, Cond.keeps, Cond.steady])) hini)
theorem vx_runV (S : CallFix p m c cc nL s args Ts own) (hM : vx_Met l y ws rm Pc Qc XC mc ms free) (cw : CallW R s args own C index y bytes maxL ret ws rm mc ms n) (hp : PreV s H C b Pc As)
    (hg : g.method = m) (hn : As.length = n) (hsize : g.locals.size = nL) (hstack : g.stack = As.reverse ++ .ref b :: rest) (hW : 2 * g.monitorRoom + (rest.map fun v => v.category).sum ≤ 8) (hdg : decode cc g.pc = .ok (.invokevirtual index, 3)) (hf : cells + mc ≤ R.cells ∧ slots + ms ≤ R.slots) :
    vx_Run p l e R s m args below meth c H locs cells slots mc ms g rest (Qc (Value.ref b :: As).toArray) XC free := by
  have hK : vx_Back l R p e below s args y 3 8 (PreOf R mc ms Pc) (PostOf Qc mc ms free) (vx_Post XC mc ms free) := vx_callBack cw.1 hM hp.1
  obtain ⟨⟨-, -, -, -, -, -, hcode, -, hy, hlen, hl⟩, hin, hse⟩ := cw
  obtain ⟨hx, hb, hml, ho, -⟩ := S
  obtain ⟨-, ⟨cellB, hcB, hoB, hclB⟩, hPc⟩ := hp
  intro T hT X
  rcases vx_callV X hx (C := C) (bytes := bytes) (maxL := maxL) (ret := ret) ho hl hin hse hcode hy hK (by rw [hT]; exact hcB) hoB hclB hg (hsize.trans hml.symm) (argsL := As) (rest := rest) (fun sig h => hn.trans (hlen sig h)) hstack hW (by rw [hb]; exact hdg)
    (fun vm₁ hW₁ => ⟨hf.1, hf.2, hPc (T.setVm vm₁) hT hW₁⟩) with ⟨v, vm₁, ⟨U', l2, c2, s2⟩, hW₁, X', ⟨g', mk, t, L, e1, e2, hq, h1, hL, h2, h3⟩, st⟩ | ⟨q, vm₁, ⟨U', l2, c2, s2⟩, hW₁, X', ⟨g', mk, t, L, E, ce, e1, e2, hq, hce, hcv, hcl, h1, hL, h2, h3⟩, st⟩
  · dsimp only [Pt.U, Pt.locs, Pt.cells, Pt.slots] at X' e1 e2 h1 h2 h3 st
    subst h1; subst h2; subst h3
    exact Or.inl ⟨v, (T.setVm vm₁).calling g' mk (Value.ref b :: As).toArray, t, U', L, hT, X', hL, e1, e2, hq, st⟩
  · dsimp only [Pt.U, Pt.locs, Pt.cells, Pt.slots] at X' e1 e2 h1 h2 h3 st hcl
    subst h1; subst h2; subst h3
    exact Or.inr ⟨q, (T.setVm vm₁).calling g' mk (Value.ref b :: As).toArray, t, U', L, E, ce, hT, X', hL, e1, e2, hq, hce, hcv, vx_cls hW₁ hcl, st⟩
theorem vx_runS (S : CallFix p m c cc nL s args Ts own) (hM : vx_Met l y ws rm Pc Qc XC mc ms free) (cw : CallB R s args own index y bytes maxL ret ws rm mc ms n ∧ (Cond.static y).before args s = true) (hp : PreS s H Pc As)
    (hg : g.method = m) (hn : As.length = n) (hsize : g.locals.size = nL) (hstack : g.stack = As.reverse ++ rest) (hW : 2 * g.monitorRoom + (rest.map fun v => v.category).sum ≤ 8) (hdg : decode cc g.pc = .ok (.invokestatic index, 3)) (hf : cells + mc ≤ R.cells ∧ slots + ms ≤ R.slots) :
    vx_Run p l e R s m args below meth c H locs cells slots mc ms g rest (Qc As.toArray) XC free := by
  have hK : vx_Back l R p e below s args y 3 8 (PreOf R mc ms Pc) (PostOf Qc mc ms free) (vx_Post XC mc ms free) := vx_callBack cw.1 hM hp.1
  obtain ⟨⟨-, -, -, -, -, -, hcode, hini, hy, hlen, hl⟩, hstt⟩ := cw
  obtain ⟨hx, hb, hml, ho, -⟩ := S
  intro T hT X
  rcases vx_callS X hx (bytes := bytes) (maxL := maxL) (ret := ret) ho hl hstt hini hcode hy hK hg (hsize.trans hml.symm) (argsL := As) (rest := rest) (fun sig h => hn.trans (hlen sig h)) hstack hW (by rw [hb]; exact hdg)
    (fun vm₁ hW₁ => ⟨hf.1, hf.2, hp.2 (T.setVm vm₁) hT hW₁⟩) with ⟨v, vm₁, ⟨U', l2, c2, s2⟩, hW₁, X', ⟨g', mk, t, L, e1, e2, hq, h1, hL, h2, h3⟩, st⟩ | ⟨q, vm₁, ⟨U', l2, c2, s2⟩, hW₁, X', ⟨g', mk, t, L, E, ce, e1, e2, hq, hce, hcv, hcl, h1, hL, h2, h3⟩, st⟩
  · dsimp only [Pt.U, Pt.locs, Pt.cells, Pt.slots] at X' e1 e2 h1 h2 h3 st
    subst h1; subst h2; subst h3
    exact Or.inl ⟨v, (T.setVm vm₁).calling g' mk As.toArray, t, U', L, hT, X', hL, e1, e2, hq, st⟩
  · dsimp only [Pt.U, Pt.locs, Pt.cells, Pt.slots] at X' e1 e2 h1 h2 h3 st hcl
    subst h1; subst h2; subst h3
    exact Or.inr ⟨q, (T.setVm vm₁).calling g' mk As.toArray, t, U', L, E, ce, hT, X', hL, e1, e2, hq, hce, hcv, vx_cls hW₁ hcl, st⟩
end Runs
section Rows
variable {p : Program} {l : Launch} {e : Env} {R : Room} {s : State} {m : MethodId} {args : Array Value} {below : List Frame} {meth : Method} {c : Code} {H : Heap} {locs : List Loc} {cells slots : Nat} {Q : State → Prop}
variable {mc ms : Nat} {free : Addr → Prop} {A0 A1 : Nat → Prop} {H0 : Heap} {a : Array Value} {pc : Nat} {ls : Array Slot} {st0 rest : List Value}
theorem vx_keep {st₀ t T' : State} {L : List Loc} (h0 : st₀.heap = H) (e1 : T'.heap = t.heap) (hS : va_S A0 H0 H locs) (hA : ∀ q, q < H.size → A1 q → A0 q) (hf : ∀ q, free q → A0 q) (hL : ∀ q ∈ L, free q.base) (hF : va_F A1 st₀ t) :
    H.size ≤ T'.heap.size ∧ (∀ q : Nat, q < H.size → ¬ A1 q → T'.heap[q]? = H[q]?) ∧ va_S A0 H0 T'.heap (locs ++ L) := by
  obtain ⟨hz, hk⟩ := hF
  rw [h0] at hz hk
  exact ⟨by rw [e1]; exact hz, fun q h1 h2 => by rw [e1]; exact hk q h1 h2,
    ⟨Nat.le_trans hS.1 (by rw [e1]; exact hz), fun q h1 h2 => by rw [e1, hk q (Nat.lt_of_lt_of_le h1 hS.1) (fun z => h2 (hA q (Nat.lt_of_lt_of_le h1 hS.1) z))]; exact hS.2.1 q h1 h2, fun q hq => by
      rcases List.mem_append.mp hq with h | h
      · exact hS.2.2 q h
      · exact hf _ (hL q h)⟩⟩
theorem vx_calli {S SX : Type} {post : Int32 → S → Prop} {px : SX → Prop} {B : S → State → Prop} {BX : String → SX → State → Prop} {AX : Nat → Prop} (hr : vx_Run p l e R s m args below meth c H locs cells slots mc ms (F0 m pc ls st0) rest (va_Qi post B A1 a) (vx_X px BX AX) free) (hS : va_S A0 H0 H locs) (hA : ∀ q, q < H.size → A1 q → A0 q) (hf : ∀ q, free q → A0 q) (hAX : ∀ q, q < H.size → AX q → A0 q)
    (kx : ∀ (E : String) (ce : Cell) (q9 : Addr) (u : SX) (t : State) (H1 : Heap) (locs1 : List Loc), t.heap = H1 → s.vm.Alike t.vm → px u → BX E u t → H.size ≤ H1.size → (∀ q : Nat, q < H.size → ¬ AX q → H1[q]? = H[q]?) → va_S A0 H0 H1 locs1 → H1[q9]? = some ce → ce.vm = .none → s.vm.findClass E = some ce.cls → vx_W p l e R s m args below meth c H1 locs1 (cells + mc) (slots + ms) Q (F0 m pc ls rest) q9)
    (kk : ∀ (r : Int32) (u : S) (t : State) (H1 : Heap) (locs1 : List Loc), t.heap = H1 → s.vm.Alike t.vm → post r u → B u t → H.size ≤ H1.size → (∀ q : Nat, q < H.size → ¬ A1 q → H1[q]? = H[q]?) → va_S A0 H0 H1 locs1 → W p l e R s m args below meth c H1 locs1 (cells + mc) (slots + ms) Q (F0 m (pc + 3) ls (.int r :: rest))) : W p l e R s m args below meth c H locs cells slots Q (F0 m pc ls st0) := by
  intro T hT X
  rcases hr T hT X with ⟨v, st₀, t, T', L, h0, X', hL, e1, e2, ⟨⟨r, u, hv, hp, hb⟩, hF⟩, st⟩ | ⟨q, st₀, t, T', L, E, ce, h0, X', hL, e1, e2, ⟨u, hp, hb, hF⟩, hce, hcv, hcl, st⟩
  · cases hv
    obtain ⟨k1, k2, k3⟩ := vx_keep h0 e1 hS hA hf hL hF
    obtain ⟨t2, a1, b1⟩ := kk r u t T'.heap (locs ++ L) e1.symm (by rw [← e2]; exact X'.warmed.alike) hp hb k1 k2 k3 T' rfl X'
    exact ⟨t2, st t2 a1, b1⟩
  · obtain ⟨k1, k2, k3⟩ := vx_keep h0 e1 hS hAX hf hL hF
    obtain ⟨t2, a1, b1⟩ := kx E ce q u t T'.heap (locs ++ L) e1.symm (by rw [← e2]; exact X'.warmed.alike) hp hb k1 k2 k3 (by rw [e1]; exact hce) hcv hcl T' rfl X'
    exact ⟨t2, st.trans a1, b1⟩
theorem vx_calll {S SX : Type} {post : Int64 → S → Prop} {px : SX → Prop} {B : S → State → Prop} {BX : String → SX → State → Prop} {AX : Nat → Prop} (hr : vx_Run p l e R s m args below meth c H locs cells slots mc ms (F0 m pc ls st0) rest (va_Ql post B A1 a) (vx_X px BX AX) free) (hS : va_S A0 H0 H locs) (hA : ∀ q, q < H.size → A1 q → A0 q) (hf : ∀ q, free q → A0 q) (hAX : ∀ q, q < H.size → AX q → A0 q)
    (kx : ∀ (E : String) (ce : Cell) (q9 : Addr) (u : SX) (t : State) (H1 : Heap) (locs1 : List Loc), t.heap = H1 → s.vm.Alike t.vm → px u → BX E u t → H.size ≤ H1.size → (∀ q : Nat, q < H.size → ¬ AX q → H1[q]? = H[q]?) → va_S A0 H0 H1 locs1 → H1[q9]? = some ce → ce.vm = .none → s.vm.findClass E = some ce.cls → vx_W p l e R s m args below meth c H1 locs1 (cells + mc) (slots + ms) Q (F0 m pc ls rest) q9)
    (kk : ∀ (r : Int64) (u : S) (t : State) (H1 : Heap) (locs1 : List Loc), t.heap = H1 → s.vm.Alike t.vm → post r u → B u t → H.size ≤ H1.size → (∀ q : Nat, q < H.size → ¬ A1 q → H1[q]? = H[q]?) → va_S A0 H0 H1 locs1 → W p l e R s m args below meth c H1 locs1 (cells + mc) (slots + ms) Q (F0 m (pc + 3) ls (.long r :: rest))) : W p l e R s m args below meth c H locs cells slots Q (F0 m pc ls st0) := by
  intro T hT X
  rcases hr T hT X with ⟨v, st₀, t, T', L, h0, X', hL, e1, e2, ⟨⟨r, u, hv, hp, hb⟩, hF⟩, st⟩ | ⟨q, st₀, t, T', L, E, ce, h0, X', hL, e1, e2, ⟨u, hp, hb, hF⟩, hce, hcv, hcl, st⟩
  · cases hv
    obtain ⟨k1, k2, k3⟩ := vx_keep h0 e1 hS hA hf hL hF
    obtain ⟨t2, a1, b1⟩ := kk r u t T'.heap (locs ++ L) e1.symm (by rw [← e2]; exact X'.warmed.alike) hp hb k1 k2 k3 T' rfl X'
    exact ⟨t2, st t2 a1, b1⟩
  · obtain ⟨k1, k2, k3⟩ := vx_keep h0 e1 hS hAX hf hL hF
    obtain ⟨t2, a1, b1⟩ := kx E ce q u t T'.heap (locs ++ L) e1.symm (by rw [← e2]; exact X'.warmed.alike) hp hb k1 k2 k3 (by rw [e1]; exact hce) hcv hcl T' rfl X'
    exact ⟨t2, st.trans a1, b1⟩
theorem vx_callf {S SX : Type} {post : UInt32 → S → Prop} {px : SX → Prop} {B : S → State → Prop} {BX : String → SX → State → Prop} {AX : Nat → Prop} (hr : vx_Run p l e R s m args below meth c H locs cells slots mc ms (F0 m pc ls st0) rest (va_Qf post B A1 a) (vx_X px BX AX) free) (hS : va_S A0 H0 H locs) (hA : ∀ q, q < H.size → A1 q → A0 q) (hf : ∀ q, free q → A0 q) (hAX : ∀ q, q < H.size → AX q → A0 q)
    (kx : ∀ (E : String) (ce : Cell) (q9 : Addr) (u : SX) (t : State) (H1 : Heap) (locs1 : List Loc), t.heap = H1 → s.vm.Alike t.vm → px u → BX E u t → H.size ≤ H1.size → (∀ q : Nat, q < H.size → ¬ AX q → H1[q]? = H[q]?) → va_S A0 H0 H1 locs1 → H1[q9]? = some ce → ce.vm = .none → s.vm.findClass E = some ce.cls → vx_W p l e R s m args below meth c H1 locs1 (cells + mc) (slots + ms) Q (F0 m pc ls rest) q9)
    (kk : ∀ (r : UInt32) (u : S) (t : State) (H1 : Heap) (locs1 : List Loc), t.heap = H1 → s.vm.Alike t.vm → post r u → B u t → H.size ≤ H1.size → (∀ q : Nat, q < H.size → ¬ A1 q → H1[q]? = H[q]?) → va_S A0 H0 H1 locs1 → W p l e R s m args below meth c H1 locs1 (cells + mc) (slots + ms) Q (F0 m (pc + 3) ls (.float r :: rest))) : W p l e R s m args below meth c H locs cells slots Q (F0 m pc ls st0) := by
  intro T hT X
  rcases hr T hT X with ⟨v, st₀, t, T', L, h0, X', hL, e1, e2, ⟨⟨r, u, hv, hp, hb⟩, hF⟩, st⟩ | ⟨q, st₀, t, T', L, E, ce, h0, X', hL, e1, e2, ⟨u, hp, hb, hF⟩, hce, hcv, hcl, st⟩
  · cases hv
    obtain ⟨k1, k2, k3⟩ := vx_keep h0 e1 hS hA hf hL hF
    obtain ⟨t2, a1, b1⟩ := kk r u t T'.heap (locs ++ L) e1.symm (by rw [← e2]; exact X'.warmed.alike) hp hb k1 k2 k3 T' rfl X'
    exact ⟨t2, st t2 a1, b1⟩
  · obtain ⟨k1, k2, k3⟩ := vx_keep h0 e1 hS hAX hf hL hF
    obtain ⟨t2, a1, b1⟩ := kx E ce q u t T'.heap (locs ++ L) e1.symm (by rw [← e2]; exact X'.warmed.alike) hp hb k1 k2 k3 (by rw [e1]; exact hce) hcv hcl T' rfl X'
    exact ⟨t2, st.trans a1, b1⟩
theorem vx_calld {S SX : Type} {post : UInt64 → S → Prop} {px : SX → Prop} {B : S → State → Prop} {BX : String → SX → State → Prop} {AX : Nat → Prop} (hr : vx_Run p l e R s m args below meth c H locs cells slots mc ms (F0 m pc ls st0) rest (va_Qd post B A1 a) (vx_X px BX AX) free) (hS : va_S A0 H0 H locs) (hA : ∀ q, q < H.size → A1 q → A0 q) (hf : ∀ q, free q → A0 q) (hAX : ∀ q, q < H.size → AX q → A0 q)
    (kx : ∀ (E : String) (ce : Cell) (q9 : Addr) (u : SX) (t : State) (H1 : Heap) (locs1 : List Loc), t.heap = H1 → s.vm.Alike t.vm → px u → BX E u t → H.size ≤ H1.size → (∀ q : Nat, q < H.size → ¬ AX q → H1[q]? = H[q]?) → va_S A0 H0 H1 locs1 → H1[q9]? = some ce → ce.vm = .none → s.vm.findClass E = some ce.cls → vx_W p l e R s m args below meth c H1 locs1 (cells + mc) (slots + ms) Q (F0 m pc ls rest) q9)
    (kk : ∀ (r : UInt64) (u : S) (t : State) (H1 : Heap) (locs1 : List Loc), t.heap = H1 → s.vm.Alike t.vm → post r u → B u t → H.size ≤ H1.size → (∀ q : Nat, q < H.size → ¬ A1 q → H1[q]? = H[q]?) → va_S A0 H0 H1 locs1 → W p l e R s m args below meth c H1 locs1 (cells + mc) (slots + ms) Q (F0 m (pc + 3) ls (.double r :: rest))) : W p l e R s m args below meth c H locs cells slots Q (F0 m pc ls st0) := by
  intro T hT X
  rcases hr T hT X with ⟨v, st₀, t, T', L, h0, X', hL, e1, e2, ⟨⟨r, u, hv, hp, hb⟩, hF⟩, st⟩ | ⟨q, st₀, t, T', L, E, ce, h0, X', hL, e1, e2, ⟨u, hp, hb, hF⟩, hce, hcv, hcl, st⟩
  · cases hv
    obtain ⟨k1, k2, k3⟩ := vx_keep h0 e1 hS hA hf hL hF
    obtain ⟨t2, a1, b1⟩ := kk r u t T'.heap (locs ++ L) e1.symm (by rw [← e2]; exact X'.warmed.alike) hp hb k1 k2 k3 T' rfl X'
    exact ⟨t2, st t2 a1, b1⟩
  · obtain ⟨k1, k2, k3⟩ := vx_keep h0 e1 hS hAX hf hL hF
    obtain ⟨t2, a1, b1⟩ := kx E ce q u t T'.heap (locs ++ L) e1.symm (by rw [← e2]; exact X'.warmed.alike) hp hb k1 k2 k3 (by rw [e1]; exact hce) hcv hcl T' rfl X'
    exact ⟨t2, st.trans a1, b1⟩
theorem vx_callv {S SX : Type} {post : S → Prop} {px : SX → Prop} {B : S → State → Prop} {BX : String → SX → State → Prop} {AX : Nat → Prop} (hr : vx_Run p l e R s m args below meth c H locs cells slots mc ms (F0 m pc ls st0) rest (va_Qv post B A1 a) (vx_X px BX AX) free) (hS : va_S A0 H0 H locs) (hA : ∀ q, q < H.size → A1 q → A0 q) (hf : ∀ q, free q → A0 q) (hAX : ∀ q, q < H.size → AX q → A0 q)
    (kx : ∀ (E : String) (ce : Cell) (q9 : Addr) (u : SX) (t : State) (H1 : Heap) (locs1 : List Loc), t.heap = H1 → s.vm.Alike t.vm → px u → BX E u t → H.size ≤ H1.size → (∀ q : Nat, q < H.size → ¬ AX q → H1[q]? = H[q]?) → va_S A0 H0 H1 locs1 → H1[q9]? = some ce → ce.vm = .none → s.vm.findClass E = some ce.cls → vx_W p l e R s m args below meth c H1 locs1 (cells + mc) (slots + ms) Q (F0 m pc ls rest) q9)
    (kk : ∀ (u : S) (t : State) (H1 : Heap) (locs1 : List Loc), t.heap = H1 → s.vm.Alike t.vm → post u → B u t → H.size ≤ H1.size → (∀ q : Nat, q < H.size → ¬ A1 q → H1[q]? = H[q]?) → va_S A0 H0 H1 locs1 → W p l e R s m args below meth c H1 locs1 (cells + mc) (slots + ms) Q (F0 m (pc + 3) ls (rest))) : W p l e R s m args below meth c H locs cells slots Q (F0 m pc ls st0) := by
  intro T hT X
  rcases hr T hT X with ⟨v, st₀, t, T', L, h0, X', hL, e1, e2, ⟨⟨u, hv, hp, hb⟩, hF⟩, st⟩ | ⟨q, st₀, t, T', L, E, ce, h0, X', hL, e1, e2, ⟨u, hp, hb, hF⟩, hce, hcv, hcl, st⟩
  · cases hv
    obtain ⟨k1, k2, k3⟩ := vx_keep h0 e1 hS hA hf hL hF
    obtain ⟨t2, a1, b1⟩ := kk u t T'.heap (locs ++ L) e1.symm (by rw [← e2]; exact X'.warmed.alike) hp hb k1 k2 k3 T' rfl X'
    exact ⟨t2, st t2 a1, b1⟩
  · obtain ⟨k1, k2, k3⟩ := vx_keep h0 e1 hS hAX hf hL hF
    obtain ⟨t2, a1, b1⟩ := kx E ce q u t T'.heap (locs ++ L) e1.symm (by rw [← e2]; exact X'.warmed.alike) hp hb k1 k2 k3 (by rw [e1]; exact hce) hcv hcl T' rfl X'
    exact ⟨t2, st.trans a1, b1⟩
/-- caught by the row x of this method's table; the rows ahead don't take it -/
theorem vx_catch {own name : String} {E : String} {ce : Cell} {q : Addr} (hown : s.vm.findClass own = some m.cls) (pre : List ExceptionTableEntry) (x : ExceptionTableEntry) (suf : List ExceptionTableEntry) (hsplit : c.exceptionTable.toList = pre ++ x :: suf)
    (hpass : ∀ z ∈ pre, covers z pc = false ∨ (z.catchType ≠ 0 ∧ ∃ nm : String, (Cond.classLink own z.catchType nm).before args s = true ∧ va_Nc E nm s)) (hx : covers x pc = true) (h0 : x.catchType ≠ 0)
    (hlink : (Cond.classLink own x.catchType name).before args s = true) (hcast : (Cond.castable E name).before args s = true) (hcell : H[q]? = some ce) (hv : ce.vm = .none) (hcl : s.vm.findClass E = some ce.cls)
    (kk : W p l e R s m args below meth c H locs cells slots Q (F0 m x.handlerPc ls [.ref q])) : vx_W p l e R s m args below meth c H locs cells slots Q (F0 m pc ls rest) q := by
  intro T hT X
  have hpl : e.platform.magicAccessors = ({} : Platform).magicAccessors := by rw [X.admits.platform]
  obtain ⟨c3, c4, hc3, hc4, hasg⟩ := Cond.castable_spec hcast
  cases Option.some.inj (hc3.symm.trans hcl)
  obtain ⟨c5, hc5, hcl5⟩ := Cond.classLink_spec hown hlink e.platform hpl
  cases Option.some.inj (hc4.symm.trans hc5)
  obtain ⟨vm', X', st⟩ := X.thenCaughtThrough q (g := F0 m pc ls rest) rfl (Steps.refl _) (by rw [hT]; exact hcell) (by rw [hv]; rfl) (by obtain ⟨k9, h9, -⟩ := Vm.findClass_spec hcl; exact ⟨k9, h9⟩) pre x suf hsplit
    (fun z hz => by
      rcases hpass z hz with h | ⟨hz0, nm, hl1, hn1⟩
      · exact Or.inl h
      · obtain ⟨c6, hc6, hcl6⟩ := Cond.classLink_spec hown hl1 e.platform hpl
        obtain ⟨a8, b8, h1, h2, h3⟩ := hn1
        cases Option.some.inj (h1.symm.trans hcl)
        cases Option.some.inj (h2.symm.trans hc6)
        exact Or.inr ⟨hz0, _, hcl6, h3⟩) hx (Or.inr ⟨h0, c4, hcl5, hasg⟩)
  obtain ⟨t, a1, b1⟩ := kk (T.setVm vm') hT X'
  exact ⟨t, st.trans a1, b1⟩
end Rows
section Ends
variable {p : Program} {l : Launch} {e : Env} {R : Room} {s : State} {m : MethodId} {args : Array Value} {below : List Frame} {meth : Method} {c : Code} {H : Heap} {locs : List Loc} {cells slots : Nat} {Q : State → Prop}
variable {mc ms : Nat} {free : Addr → Prop} {A0 A1 : Nat → Prop} {H0 : Heap} {a : Array Value} {ls : Array Slot} {st0 rest : List Value}
variable {Qc : Array Value → State → Outcome → State → Prop} {XC : String → State → State → Prop}
/-- what a body that may throw owes at its end -/
def vx_MQ (below : List Frame) (Qc : Array Value → State → Outcome → State → Prop) (XC : String → State → State → Prop) (a : Array Value) (s : State) (mc ms : Nat) (free : Addr → Prop) : State → Prop := fun t =>
  ∃ o, t.status = .running ∧ Ended t below o ∧ vx_Q Qc XC mc ms free a s o t
theorem vx_ret {g : JFrame} {mc ms : Nat} (k : W p l e R s m args below meth c H locs cells slots (MQ below Qc args s mc ms free) g) : W p l e R s m args below meth c H locs cells slots (vx_MQ below Qc XC args s mc ms free) g := by
  intro T hT X
  obtain ⟨t, a1, o, b1, b2, b3, b4⟩ := k T hT X
  exact ⟨t, a1, o, b1, b2, Or.inl ⟨b3, b4⟩⟩
/-- not caught here: it goes on to the caller -/
theorem vx_widen {g : JFrame} {q : Addr} {k n : Nat} (h1 : cells ≤ k) (h2 : slots ≤ n) (kk : vx_W p l e R s m args below meth c H locs k n Q g q) : vx_W p l e R s m args below meth c H locs cells slots Q g q := fun T hT X => kk T hT (stand_widen X h1 h2)
theorem vx_out {pc : Nat} {E : String} {ce : Cell} {q : Addr} {mc ms : Nat} (hout : ∀ x ∈ c.exceptionTable.toList, covers x pc = false) (hlocks : meth.locks = false) (hcell : H[q]? = some ce) (hv : ce.vm = .none) (hcl : s.vm.findClass E = some ce.cls)
    (hx : ∀ t : State, t.heap = H → s.vm.Alike t.vm → XC E s t) (hf : ∀ z ∈ locs, free z.base) (hc : cells ≤ mc) (hs : slots ≤ ms) :
    vx_W p l e R s m args below meth c H locs cells slots (vx_MQ below Qc XC args s mc ms free) (F0 m pc ls rest) q := by
  intro T hT X
  obtain ⟨st1, hrun, hend, hW, hsm⟩ := X.leaveThrown q (g := F0 m pc ls rest) rfl rfl rfl hout hlocks
  have hcell9 : (T.setFrames (.throwing q :: below)).heap[q]? = some ce := by
    show T.heap[q]? = some ce
    rw [hT]; exact hcell
  exact ⟨_, st1, .threw q, hrun, hend, Or.inr ⟨q, rfl, E, ce, locs, hx _ hT hW.alike, hcell9, hv, hcl, hW, hsm.mono hc hs, hf⟩⟩
theorem vx_frame {U : State} {k n : Nat} (h : s.sameButNew ({ U with vm := s.vm } : State) locs k n) : s.heap.size ≤ U.heap.size ∧ ∀ q : Nat, q < s.heap.size → (∀ z ∈ locs, z.base ≠ q) → U.heap[q]? = s.heap[q]? := by
  obtain ⟨-, h2, -, -, -, h6⟩ := h
  refine ⟨h2, fun q hq hz => ?_⟩
  obtain ⟨c9, e1, e2, e3, e4⟩ := h6 q _ (Array.getElem?_eq_getElem hq)
  have hs : c9.slots = (s.heap[q]).slots := Array.ext_getElem? fun i => e4 i fun hm => hz _ hm rfl
  have h9 : c9 = s.heap[q] := by
    rw [hs] at e2
    exact e2
  have e5 : U.heap[q]? = some c9 := e1
  rw [e5, h9, Array.getElem?_eq_getElem hq]
/-- the words of a throw but the four that speak of the heap -/
def vx_no (w : Cond) : Bool := decide (w ≠ .isRef (.static Bundle.tN "UNASSIGNED_STACK" Bundle.steD)) && decide (w ≠ .isRef (.static Bundle.tN "SUPPRESSED_SENTINEL" Bundle.listD)) && decide (w ≠ .laysStatic Bundle.tN "UNASSIGNED_STACK" Bundle.steD) && decide (w ≠ .laysStatic Bundle.tN "SUPPRESSED_SENTINEL" Bundle.listD)
def vx_at0 (own : String) (ic : Nat) (X : String) (names : List String) : List Cond := (Bundle.ownAtoms0 own ic X names).filter vx_no
def vx_atS (own : String) (ic : Nat) (X : String) (names : List String) : List Cond := (Bundle.ownAtoms own ic X names).filter vx_no
/-- a word that the tables alone decide, or a good one -/
def vx_ot (w : Cond) : Bool := w.onTables || goodWord w
theorem vx_ot_at {args a' : Array Value} {s U : State} {w : Cond} (hW : s.WarmedH U.vm) (hvm : s.vm = U.vm) (hg : vx_ot w = true) (h : w.before args s = true) : w.before a' U = true := by
  simp only [vx_ot, Bool.or_eq_true] at hg
  rcases hg with hg | hg
  · exact va_tabs hg hvm h
  · exact word_at hW (good_of_word hg) h
/-- a list's words: the good ones out of the method's own list, the others by premises of their own -/
theorem vx_hat {args : Array Value} {s : State} {L B : List Cond} (h1 : ∀ w ∈ L.filter goodWord, w.before args s = true) (h2 : ∀ w ∈ L.filter (fun w => !goodWord w), w ∈ B) (h3 : ∀ w ∈ B, w.before args s = true) : ∀ w ∈ L, w.before args s = true := by
  intro w hw
  by_cases g : goodWord w = true
  · exact h1 w (List.mem_filter.mpr ⟨hw, g⟩)
  · refine h3 w (h2 w (List.mem_filter.mpr ⟨hw, ?_⟩))
    show (!goodWord w) = true
    cases hgw : goodWord w
    · rfl
    · exact absurd hgw g
theorem vx_c {args : Array Value} {s : State} {w : Cond} {B : List Cond} (h : w.before args s = true) (t : ∀ w ∈ B, w.before args s = true) : ∀ w' ∈ w :: B, w'.before args s = true := fun w' h' => (List.mem_cons.mp h').elim (fun e => by rw [e]; exact h) (t w')
theorem vx_n {args : Array Value} {s : State} : ∀ w ∈ ([] : List Cond), w.before args s = true := fun _ h => nomatch h
theorem vx_own {args : Array Value} {s : State} {L : List Cond} (h1 : ∀ w ∈ L.filter vx_no, w.before args s = true)
    (hU : (Cond.isRef (.static Bundle.tN "UNASSIGNED_STACK" Bundle.steD)).before args s = true) (hN : (Cond.isRef (.static Bundle.tN "SUPPRESSED_SENTINEL" Bundle.listD)).before args s = true)
    (lU : (Cond.laysStatic Bundle.tN "UNASSIGNED_STACK" Bundle.steD).before args s = true) (lN : (Cond.laysStatic Bundle.tN "SUPPRESSED_SENTINEL" Bundle.listD).before args s = true) : ∀ w ∈ L, w.before args s = true := by
  intro w hw
  by_cases e1 : w = .isRef (.static Bundle.tN "UNASSIGNED_STACK" Bundle.steD)
  · rw [e1]; exact hU
  · by_cases e2 : w = .isRef (.static Bundle.tN "SUPPRESSED_SENTINEL" Bundle.listD)
    · rw [e2]; exact hN
    · by_cases e3 : w = .laysStatic Bundle.tN "UNASSIGNED_STACK" Bundle.steD
      · rw [e3]; exact lU
      · by_cases e4 : w = .laysStatic Bundle.tN "SUPPRESSED_SENTINEL" Bundle.listD
        · rw [e4]; exact lN
        · exact h1 w (List.mem_filter.mpr ⟨hw, by unfold vx_no; rw [decide_eq_true e1, decide_eq_true e2, decide_eq_true e3, decide_eq_true e4]; rfl⟩)
/-- where a static field lies, its class's statics cell in H -/
def vx_L (C n d : String) (A : Nat → Prop) (U : State) (H : Heap) : Prop := ∃ (c : ClassId) (k : Class) (i : Nat) (f : Field) (a : Nat) (cell : Cell), U.vm.findClass C = some c ∧ U.fieldFound? C n d = some (c, k, i, f) ∧ f.isStatic = true ∧ k.statics = some a ∧ H[a]? = some cell ∧ cell.vm.isStatics = true ∧ cell.cls = c ∧ f.slot < cell.slots.size ∧ k.staticTypes[f.slot]? = some f.type ∧ ¬ A a
theorem vx_L.moved {C n d : String} {A : Nat → Prop} {u U : State} {H : Heap} (hvm : u.vm.Alike U.vm) (h : vx_L C n d A u H) : vx_L C n d A U H := by
  obtain ⟨c, k, i, f, a, cell, h1, h2, h3, h4, h5, h6, h7, h8, h9, h10⟩ := h
  obtain ⟨k', hi', he⟩ := State.fieldFound?_setVm hvm h2
  exact ⟨c, k', i, f, a, cell, by rw [hvm.findClass]; exact h1, hi', h3, by rw [he]; exact h4, h5, h6, h7, h8, by rw [he]; exact h9, h10⟩
theorem vx_L.kept {C n d : String} {A : Nat → Prop} {U : State} {H H1 : Heap} (h : vx_L C n d A U H) (hq : ∀ a : Nat, a < H.size → ¬ A a → H1[a]? = H[a]?) : vx_L C n d A U H1 := by
  obtain ⟨c, k, i, f, a, cell, h1, h2, h3, h4, h5, h6, h7, h8, h9, h10⟩ := h
  exact ⟨c, k, i, f, a, cell, h1, h2, h3, h4, by rw [hq a (Array.getElem?_eq_some_iff.mp h5).1 h10]; exact h5, h6, h7, h8, h9, h10⟩
theorem vx_L.narrow {C n d : String} {A B : Nat → Prop} {U : State} {H : Heap} (h : vx_L C n d A U H) (hAB : ∀ q, B q → A q) : vx_L C n d B U H := by
  obtain ⟨c, k, i, f, a, cell, h1, h2, h3, h4, h5, h6, h7, h8, h9, h10⟩ := h
  exact ⟨c, k, i, f, a, cell, h1, h2, h3, h4, h5, h6, h7, h8, h9, fun z => h10 (hAB _ z)⟩
theorem vx_L.word {C n d : String} {A : Nat → Prop} {s : State} {args : Array Value} (h : vx_L C n d A s s.heap) : (Cond.laysStatic C n d).before args s = true := by
  obtain ⟨c, k, i, f, a, cell, h1, h2, h3, h4, h5, h6, h7, h8, h9, -⟩ := h
  show (Cond.laysStatic C n d).holds args s none s [] = true
  exact Cond.laysStatic_of h1 h2 h3 h4 h5 h6 h7 h8 h9
/-- .. and what it holds: null or some reference -/
def vx_Zq (C n d : String) (A : Nat → Prop) (U : State) (H : Heap) : Prop := va_Zq C n d A U H ∧ vx_L C n d A U H
theorem vx_Zq.moved {C n d : String} {A : Nat → Prop} {u U : State} {H : Heap} (hvm : u.vm.Alike U.vm) (h : vx_Zq C n d A u H) : vx_Zq C n d A U H := ⟨va_Zq.moved hvm h.1, vx_L.moved hvm h.2⟩
theorem vx_Zq.kept {C n d : String} {A : Nat → Prop} {U : State} {H H1 : Heap} (h : vx_Zq C n d A U H) (hq : ∀ a : Nat, a < H.size → ¬ A a → H1[a]? = H[a]?) : vx_Zq C n d A U H1 := ⟨va_Zq.kept h.1 hq, vx_L.kept h.2 hq⟩
theorem vx_Zq.narrow {C n d : String} {A B : Nat → Prop} {U : State} {H : Heap} (h : vx_Zq C n d A U H) (hAB : ∀ q, B q → A q) : vx_Zq C n d B U H := ⟨va_Zq.narrow h.1 hAB, vx_L.narrow h.2 hAB⟩
theorem vx_Zqof {args : Array Value} {s : State} {C n d : String} {A : Nat → Prop} (hl : (Cond.laysStatic C n d).before args s = true) (hini : (Cond.initialized C).before args s = true) (h : (Cond.isRef (.static C n d)).before args s = true) (hA : ∀ a : Nat, a < s.heap.size → ¬ A a) : vx_Zq C n d A s s.heap := by
  refine ⟨va_Zqof hl hini h hA, ?_⟩
  obtain ⟨c, k, i, f, a, cell, h1, h2, h3, h4, h5, h6, h7, h8, h9⟩ := Cond.laysStatic_spec hl
  exact ⟨c, k, i, f, a, cell, h1, h2, h3, h4, h5, h6, h7, h8, h9, hA a (Array.getElem?_eq_some_iff.mp h5).1⟩
theorem vx_isRef {C n d : String} {v : Value} {A : Nat → Prop} {s : State} {args : Array Value} (h : va_Z C n d v A s s.heap) (hv : v.isRef = true) : (Cond.isRef (.static C n d)).before args s = true := by
  obtain ⟨cf, kf, fi, f, a, cell, h1, h2, h3, h4, h5, h6, h7, -⟩ := h
  have he : (Term.static C n d).eval args s none [] s = some v := by
    simp [Term.eval, State.fieldNamed?, h1, h2, h4, h5, h6, h7]
  simp only [Cond.before, Cond.holds, Cond.value, he]
  cases v <;> simp_all [Value.isRef]
theorem vx_isRefq {C n d : String} {A : Nat → Prop} {s : State} {args : Array Value} (h : va_Zq C n d A s s.heap) : (Cond.isRef (.static C n d)).before args s = true := by
  rcases h with h | ⟨t, h⟩
  · exact vx_isRef h rfl
  · exact vx_isRef h rfl
/-- the same frame, seen from here: as if the method were called anew in this heap -/
theorem vx_rebase {T : State} (X : Stand p l e R s m args below meth c T locs cells slots) {R' : Room} (hf : R'.frames ≤ R.frames) (hl : R'.locals ≤ R.locals) (hc : cells + R'.cells ≤ R.cells) (hs : slots + R'.slots ≤ R.slots) :
    Stand p l e R' ((T.setVm s.vm).setFrames (.invoking m args :: below)) m args below meth c T [] 0 0 := by
  have htop : (T.setVm s.vm).topJava?.isSome := X.here.top
  have hF : ((T.setVm s.vm).setFrames (.invoking m args :: below)).frames = .invoking m args :: below := State.frames_setFrames _ (State.cur_lt_of_top htop)
  obtain ⟨g₀, hg0⟩ := Option.isSome_iff_exists.mp htop
  obtain ⟨r, hr⟩ := State.topJava?_eq_some.mp hg0
  have hl9 : e.platform.stackLimits (T.setVm s.vm).me = e.platform.stackLimits s.me := X.limits
  have hb9 : (T.setVm s.vm).me.stackBytes = s.me.stackBytes := X.bytes
  refine ⟨X.admits, X.cas, X.clock, hF, ?_, X.hears, X.method, X.code, X.here, X.tail, X.warmed, ?_, ?_, ?_⟩
  · have h := X.room
    have hU : ((T.setVm s.vm).setFrames (.invoking m args :: below)).localsInUse = s.localsInUse := by
      rw [State.localsInUse_invoking hF (meth := meth) (c := c) X.method X.code, State.localsInUse_invoking X.frames X.method X.code]
    simp only [State.hasRoom, Bool.and_eq_true, decide_eq_true_eq] at h ⊢
    obtain ⟨⟨⟨⟨h1, h2, h3, h4, h5, h6⟩, h7⟩, h8⟩, h9⟩ := h
    rw [X.frames, List.length_cons] at h2 h3
    have q1 := X.heapSize
    have q2 := X.used
    simp only [hF, hU, List.length_cons, State.stackLimits_setFrames, State.stackBytes_setFrames, hl9, hb9]
    refine ⟨⟨⟨⟨by omega, by omega, by omega, by omega, by omega, h6⟩, ?_⟩, ?_⟩, X.book⟩
    · show T.heap.size + R'.cells ≤ e.platform.maxCells
      omega
    · show T.slotsUsed + R'.slots ≤ e.platform.maxSlots
      omega
  · rw [State.stackLimits_setFrames]; rfl
  · rw [State.stackBytes_setFrames]; rfl
  · refine ⟨?_, Nat.le_refl _, Nat.le_refl _, ?_, ?_, fun a c9 h9 => ⟨c9, h9, rfl, rfl, fun _ _ => rfl⟩⟩
    · obtain ⟨t, ht, -⟩ := State.frames_cons hr
      show T.setVm s.vm = { ((T.setVm s.vm).setFrames (.invoking m args :: below)).setFrames (T.setVm s.vm).frames with heap := T.heap, slotsUsed := T.slotsUsed }
      rw [State.setFrames_setFrames, State.setFrames_self ht]
      rfl
    · show T.slotsUsed = T.slotsUsed + ((T.heap.toList.drop T.heap.size).map (·.slots.size)).sum
      rw [List.drop_eq_nil_of_le (Nat.le_of_eq Array.length_toList)]
      rfl
    · show ((T.heap.toList.drop T.heap.size).map (·.slots.size)).sum ≤ 0
      rw [List.drop_eq_nil_of_le (Nat.le_of_eq Array.length_toList)]
      exact Nat.le_refl _
/-- 'throw new E()': new; dup; invokespecial; athrow -/
theorem vx_throw0 {cc : ByteArray} {pc : Nat} (hexec : p.tables.exec = Jvm.exec) (hb : c.code = cc) (hl : l.stackTraces = false) {own cls : String} {names : List String} {ik ic mc ms : Nat} {A : Nat → Prop}
    (hown : s.vm.findClass own = some m.cls) (hcls : Bundle.fit cls = true) (hnames : ∀ n ∈ names, Bundle.fit n = true)
    (hk : (Cond.classLink own ik cls).before args s = true) (hini : (Cond.initialized cls).before args s = true) (hat : ∀ w ∈ vx_at0 own ic cls names, w.before args s = true)
    (hgood : ∀ w ∈ Cond.classLink own ik cls :: Cond.initialized cls :: vx_at0 own ic cls names, vx_ot w = true)
    (hU : vx_Zq Bundle.tN "UNASSIGNED_STACK" Bundle.steD A s s.heap) (hN : vx_Zq Bundle.tN "SUPPRESSED_SENTINEL" Bundle.listD A s s.heap) (hS : va_S A s.heap H locs) (hsize : ls.size = c.maxLocals)
    (d0 : decode cc pc = .ok (.new ik, 3)) (d3 : decode cc (pc + 3) = .ok (.dup, 1)) (d4 : decode cc (pc + 4) = .ok (.invokespecial ic, 3)) (d7 : decode cc (pc + 7) = .ok (.athrow, 1))
    (hout : ∀ x ∈ c.exceptionTable.toList, covers x (pc + 7) = false)
    (hRframes : names.length + 3 < R.frames) (hRlocals : (rest.map fun v => v.category).sum + (13 * (names.length + 1) + 42) ≤ R.locals) (hRcells : cells + 1 ≤ R.cells) (hRslots : slots + 6 ≤ R.slots) (hlocks : meth.locks = false)
    (hx : ∀ t : State, s.vm.Alike t.vm → H.size ≤ t.heap.size → (∀ q : Nat, q < H.size → t.heap[q]? = H[q]?) → XC cls s t)
    (hf : ∀ z ∈ locs, free z.base) (hc : cells + 1 ≤ mc) (hs : slots + 6 ≤ ms) :
    W p l e R s m args below meth c H locs cells slots (vx_MQ below Qc XC args s mc ms free) (F0 m pc ls rest) := by
  intro T hT X
  have htr : e.platform.stackTraces = false := (show e.platform.stackTraces = l.stackTraces by rw [X.admits.platform]).trans hl
  have Y := vx_rebase X (R' := { frames := R.frames, locals := R.locals, cells := 1, slots := 6 }) (Nat.le_refl _) (Nat.le_refl _) hRcells hRslots
  obtain ⟨s', hA⟩ : ∃ z, z = (T.setVm s.vm).setFrames (.invoking m args :: below) := ⟨_, rfl⟩
  rw [← hA] at Y
  have hvm : s'.vm = s.vm := by rw [hA]; rfl
  have hhp : s'.heap = H := by rw [hA]; exact hT
  have hW0 : s.WarmedH s'.vm := by rw [hvm]; exact State.WarmedH.refl s
  have hat' : ∀ w ∈ vx_at0 own ic cls names, w.before args s' = true := fun w hw => vx_ot_at hW0 hvm.symm (hgood w (List.mem_cons_of_mem _ (List.mem_cons_of_mem _ hw))) (hat w hw)
  have hk' : (Cond.classLink own ik cls).before args s' = true := vx_ot_at hW0 hvm.symm (hgood _ List.mem_cons_self) hk
  have hini' : (Cond.initialized cls).before args s' = true := vx_ot_at hW0 hvm.symm (hgood _ (List.mem_cons_of_mem _ List.mem_cons_self)) hini
  have hU' : vx_Zq Bundle.tN "UNASSIGNED_STACK" Bundle.steD A s' s'.heap := by rw [hhp]; exact vx_Zq.moved hW0.alike (hU.kept hS.2.1)
  have hN' : vx_Zq Bundle.tN "SUPPRESSED_SENTINEL" Bundle.listD A s' s'.heap := by rw [hhp]; exact vx_Zq.moved hW0.alike (hN.kept hS.2.1)
  have h : ∀ w ∈ Bundle.ownAtoms0 own ic cls names, w.before args s' = true := vx_own hat' (vx_isRefq hU'.1) (vx_isRefq hN'.1) hU'.2.word hN'.2.word
  have hown' : s'.vm.findClass own = some m.cls := by rw [hvm]; exact hown
  have hins : (Cond.instantiable cls 6).before args s' = true := h _ (by simp [Bundle.ownAtoms0])
  obtain ⟨vm₁, cX, kX, hfX, hkX, -, -, X₁, st1⟩ := Y.newCold hexec (own := own) (C := cls) (index := ik) (n := 6) hown' hk' hins hini'
    (g := F0 m pc ls rest) rfl (by rw [hb]; exact d0) (Nat.le_refl _) (Nat.le_refl _)
  generalize hT1 : (T.setVm vm₁).pushCell { cls := cX, slots := kX.instanceTypes.map defaultValue, vm := .none } = T1 at X₁ st1
  have hcat : (Value.ref T.heap.size).category = 1 := rfl
  have hcellA : T1.heap[T.heap.size]? = some (freshCell cX kX) := by rw [← hT1]; exact State.heap_pushCell_size _ _
  have d3' : decode c.code (pc + 3) = .ok (.dup, 1) := by rw [hb]; exact d3
  obtain ⟨U, hsteps, hrun, hend, hW, hsame, ce, hce, hO⟩ := X₁.ctorThrow0 hexec htr (own := own) (cls := cls) (names := names) (ic := ic) hown' hcls hnames h (fun x hx => nomatch hx) hfX hkX hcellA (by rw [hhp, hT]; exact Nat.le_refl _)
    (g := { method := m, pc := pc + 4, locals := ls, stack := .ref T.heap.size :: .ref T.heap.size :: rest, locked := none }) rfl hsize rfl rfl (rest := rest) rfl
    (by rw [hb]; exact d4) (by rw [hb]; exact d7) hout hRframes (by simp only [List.map_cons, List.sum_cons, hcat]; omega) hlocks
  obtain ⟨f1, f2⟩ := vx_frame hsame
  rw [hhp] at f1 f2
  have hWs : s.WarmedH U.vm := State.WarmedH.trans hW0 hW
  have hcl : s.vm.findClass cls = some ce.cls := by
    have h9 := hO.cls
    rw [hvm] at h9
    exact h9
  have hall : s.sameButNew ({ U with vm := s.vm } : State) locs mc ms := by
    subst hA
    obtain ⟨e1, e2⟩ := hsame
    rw [State.setFrames_setFrames] at e1
    have h2 : (T.setVm s.vm).sameButNew ({ U with vm := s.vm } : State) [] (0 + 1) (0 + 6) := ⟨e1, e2⟩
    have h3 := X.same.trans h2
    rw [List.append_nil] at h3
    exact h3.mono hc hs
  refine ⟨U, ?_, .threw T.heap.size, hrun, hend, Or.inr ⟨T.heap.size, rfl, cls, ce, locs, hx U hWs.alike f1 (fun q hq => f2 q hq (fun z hz => nomatch hz)), hce, hO.vm, hcl, hWs, hall, hf⟩⟩
  refine st1 _ ?_
  show Steps p.tables e below (T1.setTop { method := m, pc := pc + 3, locals := ls, stack := .ref T.heap.size :: rest, locked := none }) _
  jvm_step X₁.here [X₁.here.top, hexec, d3', Value.category]
  exact hsteps
/-- 'throw new E("text")': new; dup; ldc; invokespecial; athrow -/
theorem vx_throwS {cc : ByteArray} {pc : Nat} (hexec : p.tables.exec = Jvm.exec) (hb : c.code = cc) (hl : l.stackTraces = false) {own cls text : String} {names : List String} {ik is ic mc ms sa : Nat} {A : Nat → Prop}
    (hown : s.vm.findClass own = some m.cls) (hcls : Bundle.fit cls = true) (hnames : ∀ n ∈ names, Bundle.fit n = true)
    (hk : (Cond.classLink own ik cls).before args s = true) (hini : (Cond.initialized cls).before args s = true) (hstr : vk_R own is text sa s) (hat : ∀ w ∈ vx_atS own ic cls names, w.before args s = true)
    (hgood : ∀ w ∈ Cond.classLink own ik cls :: Cond.initialized cls :: vx_atS own ic cls names, vx_ot w = true)
    (hU : vx_Zq Bundle.tN "UNASSIGNED_STACK" Bundle.steD A s s.heap) (hN : vx_Zq Bundle.tN "SUPPRESSED_SENTINEL" Bundle.listD A s s.heap) (hS : va_S A s.heap H locs) (hsize : ls.size = c.maxLocals)
    (d0 : decode cc pc = .ok (.new ik, 3)) (d3 : decode cc (pc + 3) = .ok (.dup, 1)) (d4 : decode cc (pc + 4) = .ok (.ldc is, 2)) (d6 : decode cc (pc + 6) = .ok (.invokespecial ic, 3)) (d9 : decode cc (pc + 9) = .ok (.athrow, 1))
    (hout : ∀ x ∈ c.exceptionTable.toList, covers x (pc + 9) = false)
    (hRframes : names.length + 3 < R.frames) (hRlocals : (rest.map fun v => v.category).sum + (13 * (names.length + 1) + 43) ≤ R.locals) (hRcells : cells + 1 ≤ R.cells) (hRslots : slots + 6 ≤ R.slots) (hlocks : meth.locks = false)
    (hx : ∀ t : State, s.vm.Alike t.vm → H.size ≤ t.heap.size → (∀ q : Nat, q < H.size → t.heap[q]? = H[q]?) → XC cls s t)
    (hf : ∀ z ∈ locs, free z.base) (hc : cells + 1 ≤ mc) (hs : slots + 6 ≤ ms) :
    W p l e R s m args below meth c H locs cells slots (vx_MQ below Qc XC args s mc ms free) (F0 m pc ls rest) := by
  intro T hT X
  have htr : e.platform.stackTraces = false := (show e.platform.stackTraces = l.stackTraces by rw [X.admits.platform]).trans hl
  have Y := vx_rebase X (R' := { frames := R.frames, locals := R.locals, cells := 1, slots := 6 }) (Nat.le_refl _) (Nat.le_refl _) hRcells hRslots
  obtain ⟨s', hA⟩ : ∃ z, z = (T.setVm s.vm).setFrames (.invoking m args :: below) := ⟨_, rfl⟩
  rw [← hA] at Y
  have hvm : s'.vm = s.vm := by rw [hA]; rfl
  have hhp : s'.heap = H := by rw [hA]; exact hT
  have hW0 : s.WarmedH s'.vm := by rw [hvm]; exact State.WarmedH.refl s
  have hat' : ∀ w ∈ vx_atS own ic cls names, w.before args s' = true := fun w hw => vx_ot_at hW0 hvm.symm (hgood w (List.mem_cons_of_mem _ (List.mem_cons_of_mem _ hw))) (hat w hw)
  have hk' : (Cond.classLink own ik cls).before args s' = true := vx_ot_at hW0 hvm.symm (hgood _ List.mem_cons_self) hk
  have hini' : (Cond.initialized cls).before args s' = true := vx_ot_at hW0 hvm.symm (hgood _ (List.mem_cons_of_mem _ List.mem_cons_self)) hini
  have hU' : vx_Zq Bundle.tN "UNASSIGNED_STACK" Bundle.steD A s' s'.heap := by rw [hhp]; exact vx_Zq.moved hW0.alike (hU.kept hS.2.1)
  have hN' : vx_Zq Bundle.tN "SUPPRESSED_SENTINEL" Bundle.listD A s' s'.heap := by rw [hhp]; exact vx_Zq.moved hW0.alike (hN.kept hS.2.1)
  have h : ∀ w ∈ Bundle.ownAtoms own ic cls names, w.before args s' = true := vx_own hat' (vx_isRefq hU'.1) (vx_isRefq hN'.1) hU'.2.word hN'.2.word
  have hown' : s'.vm.findClass own = some m.cls := by rw [hvm]; exact hown
  have hins : (Cond.instantiable cls 6).before args s' = true := h _ (by simp [Bundle.ownAtoms])
  obtain ⟨vm₁, cX, kX, hfX, hkX, -, -, X₁, st1⟩ := Y.newCold hexec (own := own) (C := cls) (index := ik) (n := 6) hown' hk' hins hini'
    (g := F0 m pc ls rest) rfl (by rw [hb]; exact d0) (Nat.le_refl _) (Nat.le_refl _)
  generalize hT1 : (T.setVm vm₁).pushCell { cls := cX, slots := kX.instanceTypes.map defaultValue, vm := .none } = T1 at X₁ st1
  have hcat : (Value.ref T.heap.size).category = 1 := rfl
  have hcellA : T1.heap[T.heap.size]? = some (freshCell cX kX) := by rw [← hT1]; exact State.heap_pushCell_size _ _
  have d3' : decode c.code (pc + 3) = .ok (.dup, 1) := by rw [hb]; exact d3
  have d4' : decode c.code (pc + 4) = .ok (.ldc is, 2) := by rw [hb]; exact d4
  have hstr' : vk_R own is text sa s' := vk_R.warm hW0 hstr
  obtain ⟨U, hsteps, hrun, hend, hW, hsame, ce, hce, hO⟩ := X₁.ctorThrowS hexec htr (own := own) (cls := cls) (names := names) (ic := ic) hown' hcls hnames h (fun x hx => nomatch hx) hfX hkX hcellA (by rw [hhp, hT]; exact Nat.le_refl _) (msg := .ref sa) rfl
    (g := { method := m, pc := pc + 6, locals := ls, stack := .ref sa :: .ref T.heap.size :: .ref T.heap.size :: rest, locked := none }) rfl hsize rfl rfl (rest := rest) rfl
    (by rw [hb]; exact d6) (by rw [hb]; exact d9) hout hRframes (by simp only [List.map_cons, List.sum_cons, hcat]; omega) hlocks
  obtain ⟨f1, f2⟩ := vx_frame hsame
  rw [hhp] at f1 f2
  have hWs : s.WarmedH U.vm := State.WarmedH.trans hW0 hW
  have hcl : s.vm.findClass cls = some ce.cls := by
    have h9 := hO.cls
    rw [hvm] at h9
    exact h9
  have hall : s.sameButNew ({ U with vm := s.vm } : State) locs mc ms := by
    subst hA
    obtain ⟨e1, e2⟩ := hsame
    rw [State.setFrames_setFrames] at e1
    have h2 : (T.setVm s.vm).sameButNew ({ U with vm := s.vm } : State) [] (0 + 1) (0 + 6) := ⟨e1, e2⟩
    have h3 := X.same.trans h2
    rw [List.append_nil] at h3
    exact h3.mono hc hs
  refine ⟨U, ?_, .threw T.heap.size, hrun, hend, Or.inr ⟨T.heap.size, rfl, cls, ce, locs, hx U hWs.alike f1 (fun q hq => f2 q hq (fun z hz => nomatch hz)), hce, hO.vm, hcl, hWs, hall, hf⟩⟩
  refine st1 _ ?_
  show Steps p.tables e below (T1.setTop { method := m, pc := pc + 3, locals := ls, stack := .ref T.heap.size :: rest, locked := none }) _
  jvm_step X₁.here [X₁.here.top, hexec, d3', Value.category]
  exact X₁.ldcString hexec (own := own) (text := text) (index := is) (a := sa) hown' hstr'.1 hstr'.2
    (g := { method := m, pc := pc + 4, locals := ls, stack := .ref T.heap.size :: .ref T.heap.size :: rest, locked := none }) rfl d4' _ hsteps
/-- 'throw new E("text")', the text by a wide index -/
theorem vx_throwSW {cc : ByteArray} {pc : Nat} (hexec : p.tables.exec = Jvm.exec) (hb : c.code = cc) (hl : l.stackTraces = false) {own cls text : String} {names : List String} {ik is ic mc ms sa : Nat} {A : Nat → Prop}
    (hown : s.vm.findClass own = some m.cls) (hcls : Bundle.fit cls = true) (hnames : ∀ n ∈ names, Bundle.fit n = true)
    (hk : (Cond.classLink own ik cls).before args s = true) (hini : (Cond.initialized cls).before args s = true) (hstr : vk_R own is text sa s) (hat : ∀ w ∈ vx_atS own ic cls names, w.before args s = true)
    (hgood : ∀ w ∈ Cond.classLink own ik cls :: Cond.initialized cls :: vx_atS own ic cls names, vx_ot w = true)
    (hU : vx_Zq Bundle.tN "UNASSIGNED_STACK" Bundle.steD A s s.heap) (hN : vx_Zq Bundle.tN "SUPPRESSED_SENTINEL" Bundle.listD A s s.heap) (hS : va_S A s.heap H locs) (hsize : ls.size = c.maxLocals)
    (d0 : decode cc pc = .ok (.new ik, 3)) (d3 : decode cc (pc + 3) = .ok (.dup, 1)) (d4 : decode cc (pc + 4) = .ok (.ldc_w is, 3)) (d7 : decode cc (pc + 7) = .ok (.invokespecial ic, 3)) (d10 : decode cc (pc + 10) = .ok (.athrow, 1))
    (hout : ∀ x ∈ c.exceptionTable.toList, covers x (pc + 10) = false)
    (hRframes : names.length + 3 < R.frames) (hRlocals : (rest.map fun v => v.category).sum + (13 * (names.length + 1) + 43) ≤ R.locals) (hRcells : cells + 1 ≤ R.cells) (hRslots : slots + 6 ≤ R.slots) (hlocks : meth.locks = false)
    (hx : ∀ t : State, s.vm.Alike t.vm → H.size ≤ t.heap.size → (∀ q : Nat, q < H.size → t.heap[q]? = H[q]?) → XC cls s t)
    (hf : ∀ z ∈ locs, free z.base) (hc : cells + 1 ≤ mc) (hs : slots + 6 ≤ ms) :
    W p l e R s m args below meth c H locs cells slots (vx_MQ below Qc XC args s mc ms free) (F0 m pc ls rest) := by
  intro T hT X
  have htr : e.platform.stackTraces = false := (show e.platform.stackTraces = l.stackTraces by rw [X.admits.platform]).trans hl
  have Y := vx_rebase X (R' := { frames := R.frames, locals := R.locals, cells := 1, slots := 6 }) (Nat.le_refl _) (Nat.le_refl _) hRcells hRslots
  obtain ⟨s', hA⟩ : ∃ z, z = (T.setVm s.vm).setFrames (.invoking m args :: below) := ⟨_, rfl⟩
  rw [← hA] at Y
  have hvm : s'.vm = s.vm := by rw [hA]; rfl
  have hhp : s'.heap = H := by rw [hA]; exact hT
  have hW0 : s.WarmedH s'.vm := by rw [hvm]; exact State.WarmedH.refl s
  have hat' : ∀ w ∈ vx_atS own ic cls names, w.before args s' = true := fun w hw => vx_ot_at hW0 hvm.symm (hgood w (List.mem_cons_of_mem _ (List.mem_cons_of_mem _ hw))) (hat w hw)
  have hk' : (Cond.classLink own ik cls).before args s' = true := vx_ot_at hW0 hvm.symm (hgood _ List.mem_cons_self) hk
  have hini' : (Cond.initialized cls).before args s' = true := vx_ot_at hW0 hvm.symm (hgood _ (List.mem_cons_of_mem _ List.mem_cons_self)) hini
  have hU' : vx_Zq Bundle.tN "UNASSIGNED_STACK" Bundle.steD A s' s'.heap := by rw [hhp]; exact vx_Zq.moved hW0.alike (hU.kept hS.2.1)
  have hN' : vx_Zq Bundle.tN "SUPPRESSED_SENTINEL" Bundle.listD A s' s'.heap := by rw [hhp]; exact vx_Zq.moved hW0.alike (hN.kept hS.2.1)
  have h : ∀ w ∈ Bundle.ownAtoms own ic cls names, w.before args s' = true := vx_own hat' (vx_isRefq hU'.1) (vx_isRefq hN'.1) hU'.2.word hN'.2.word
  have hown' : s'.vm.findClass own = some m.cls := by rw [hvm]; exact hown
  have hins : (Cond.instantiable cls 6).before args s' = true := h _ (by simp [Bundle.ownAtoms])
  obtain ⟨vm₁, cX, kX, hfX, hkX, -, -, X₁, st1⟩ := Y.newCold hexec (own := own) (C := cls) (index := ik) (n := 6) hown' hk' hins hini'
    (g := F0 m pc ls rest) rfl (by rw [hb]; exact d0) (Nat.le_refl _) (Nat.le_refl _)
  generalize hT1 : (T.setVm vm₁).pushCell { cls := cX, slots := kX.instanceTypes.map defaultValue, vm := .none } = T1 at X₁ st1
  have hcat : (Value.ref T.heap.size).category = 1 := rfl
  have hcellA : T1.heap[T.heap.size]? = some (freshCell cX kX) := by rw [← hT1]; exact State.heap_pushCell_size _ _
  have d3' : decode c.code (pc + 3) = .ok (.dup, 1) := by rw [hb]; exact d3
  have d4' : decode c.code (pc + 4) = .ok (.ldc_w is, 3) := by rw [hb]; exact d4
  have hstr' : vk_R own is text sa s' := vk_R.warm hW0 hstr
  obtain ⟨U, hsteps, hrun, hend, hW, hsame, ce, hce, hO⟩ := X₁.ctorThrowS hexec htr (own := own) (cls := cls) (names := names) (ic := ic) hown' hcls hnames h (fun x hx => nomatch hx) hfX hkX hcellA (by rw [hhp, hT]; exact Nat.le_refl _) (msg := .ref sa) rfl
    (g := { method := m, pc := pc + 7, locals := ls, stack := .ref sa :: .ref T.heap.size :: .ref T.heap.size :: rest, locked := none }) rfl hsize rfl rfl (rest := rest) rfl
    (by rw [hb]; exact d7) (by rw [hb]; exact d10) hout hRframes (by simp only [List.map_cons, List.sum_cons, hcat]; omega) hlocks
  obtain ⟨f1, f2⟩ := vx_frame hsame
  rw [hhp] at f1 f2
  have hWs : s.WarmedH U.vm := State.WarmedH.trans hW0 hW
  have hcl : s.vm.findClass cls = some ce.cls := by
    have h9 := hO.cls
    rw [hvm] at h9
    exact h9
  have hall : s.sameButNew ({ U with vm := s.vm } : State) locs mc ms := by
    subst hA
    obtain ⟨e1, e2⟩ := hsame
    rw [State.setFrames_setFrames] at e1
    have h2 : (T.setVm s.vm).sameButNew ({ U with vm := s.vm } : State) [] (0 + 1) (0 + 6) := ⟨e1, e2⟩
    have h3 := X.same.trans h2
    rw [List.append_nil] at h3
    exact h3.mono hc hs
  refine ⟨U, ?_, .threw T.heap.size, hrun, hend, Or.inr ⟨T.heap.size, rfl, cls, ce, locs, hx U hWs.alike f1 (fun q hq => f2 q hq (fun z hz => nomatch hz)), hce, hO.vm, hcl, hWs, hall, hf⟩⟩
  refine st1 _ ?_
  show Steps p.tables e below (T1.setTop { method := m, pc := pc + 3, locals := ls, stack := .ref T.heap.size :: rest, locked := none }) _
  jvm_step X₁.here [X₁.here.top, hexec, d3', Value.category]
  exact X₁.ldcStringW hexec (own := own) (text := text) (index := is) (a := sa) hown' hstr'.1 hstr'.2
    (g := { method := m, pc := pc + 4, locals := ls, stack := .ref T.heap.size :: .ref T.heap.size :: rest, locked := none }) rfl d4' _ hsteps
end Ends
section Bodies
variable {l : Launch}
theorem vx_ofW {y : MethodName} {ws ws' : List Cond} {rm : Room} {Pc : Array Value → State → Prop} {Qc : Array Value → State → Outcome → State → Prop} {XC : String → State → State → Prop} {mc ms : Nat} {free : Addr → Prop} {cc : ByteArray} {maxL : Nat} {ret : Option FieldType}
    (hy : plainName y.cls = true) (hw : ws = Cond.code y cc maxL ret :: ws')
    (body : ∀ p e s m args below meth c s₁, BodyLoose p l y (headSpec ws rm) cc maxL ret e s m args below meth c s₁ → c.maxLocals = maxL → (∀ x ∈ c.exceptionTable.toList, False) → Pc args s →
      W p l e (headSpec ws rm).room s m args below meth c s.heap [] 0 0 (vx_MQ below Qc XC args s mc ms free) (entryFrame m args maxL)) : vx_Met l y ws rm Pc Qc XC mc ms free := by
  refine MetFree.of_bodyS (code := cc) (maxLocals := maxL) (ret := ret) hy ?_ ?_
  · intro args s m h hn
    obtain ⟨meth, c, h1, h2, h3, h4, h5, h6, -, -⟩ := Cond.code_spec hn (atoms_spec (ws := ws) h _ (by rw [hw]; exact List.mem_cons_self))
    exact ⟨meth, c, h1, h2, h3, h4, h5, h6⟩
  · intro p e s m args below meth c s₁ B hml hP _
    have hh0 : s₁.heap = s.heap := by rw [B.state]; rfl
    have ht : ∀ x ∈ c.exceptionTable.toList, False := by
      obtain ⟨meth9, c9, h1, h2, -, -, -, -, h7, -⟩ := Cond.code_spec B.named (atoms_spec (ws := ws) B.pre _ (by rw [hw]; exact List.mem_cons_self))
      cases Option.some.inj (h1.symm.trans B.method)
      cases Option.some.inj (h2.symm.trans (Stand.of_body B).code)
      intro x hx
      rw [Array.isEmpty_iff.mp h7] at hx
      cases hx
    obtain ⟨t, a1, o, b1, b2, b3⟩ := body p e s m args below meth c s₁ B hml ht hP s₁ hh0 (Stand.of_body B)
    exact ⟨t, o, a1, b1, b2, b3⟩
/-- the table of a body with handlers -/
theorem vx_table {p : Program} {x y : MethodName} {S : Spec} {cc bytes : ByteArray} {maxL maxL' : Nat} {ret ret' : Option FieldType} {e : Env} {s s₁ : State} {m : MethodId} {args : Array Value} {below : List Frame} {meth : Method} {c : Code} {hh : List (Nat × Nat × Nat × Nat)}
    (B : BodyLoose p l y S cc maxL ret e s m args below meth c s₁) (h : (Cond.codeWith y bytes maxL' ret' hh).before args s = true) : c.exceptionTable.toList = tableOf hh := by
  obtain ⟨m9, meth9, c9, hn9, h1, h2, -, -, h6, -⟩ := Cond.codeWith_spec h
  cases Option.some.inj (hn9.symm.trans B.named)
  cases Option.some.inj (h1.symm.trans B.method)
  cases Option.some.inj (h2.symm.trans (Stand.of_body B).code)
  rw [← h6, table_eq]
end Bodies
end VXA
/-! ===== END ===== -/
/-! ===== BEGIN a static call of a method with an exception table ===== -/
section VXS
variable {p : Program} {l : Launch} {e : Env} {R : Room} {s : State} {m : MethodId} {args : Array Value} {below : List Frame} {meth : Method} {c : Code} {T : State} {H : Heap} {locs : List Loc} {cells slots : Nat}
abbrev vx_CSW (R : Room) (s : State) (args : Array Value) (own : String) (index : Nat) (y : MethodName) (bytes : ByteArray) (maxL : Nat) (ret : Option FieldType) (hh : List (Nat × Nat × Nat × Nat)) (ws : List Cond) (rm : Room) (mc ms n : Nat) : Prop :=
  (rm.cells = mc ∧ rm.slots = ms ∧ rm.frames + 1 ≤ R.frames ∧ 8 + (maxL + 11) + rm.locals ≤ R.locals ∧ (∀ w ∈ ws, ∀ (a' : Array Value) (U : State), s.WarmedH U.vm → w.before a' U = true) ∧ Cond.codeWith y bytes maxL ret hh ∈ ws) ∧
  (Cond.codeWith y bytes maxL ret hh).before args s = true ∧ (Cond.initialized y.cls).before args s = true ∧ (y.cls ≠ "java/lang/invoke/MethodHandle" ∧ y.cls ≠ "java/lang/invoke/VarHandle") ∧
  (∀ sig, parseMethodDescriptor y.desc = some sig → n = sig.parameters.length) ∧ (Cond.methodLink own index y).before args s = true ∧ (Cond.static y).before args s = true
theorem vx_cwSW {own : String} {index maxL mc ms : Nat} {y : MethodName} {bytes : ByteArray} {ret : Option FieldType} {hh : List (Nat × Nat × Nat × Nat)} {Ts ws ws' : List Cond} {rm : Room} (n : Nat) (ht : ∀ w ∈ Ts, w.before args s = true) (hT : GoodIn Ts (va_wsS own index y ws)) (hw : ws = Cond.codeWith y bytes maxL ret hh :: ws') (hrc : rm.cells = mc) (hrs : rm.slots = ms)
    (hd : y.cls ≠ "java/lang/invoke/MethodHandle" ∧ y.cls ≠ "java/lang/invoke/VarHandle" ∧ (parseMethodDescriptor y.desc).map (fun d => d.parameters.length) = some n) (hR : rm.frames + 1 ≤ R.frames ∧ 8 + (maxL + 11) + rm.locals ≤ R.locals) :
    vx_CSW R s args own index y bytes maxL ret hh ws rm mc ms n := by
  have ok : ∀ w ∈ va_wsS own index y ws, w.before args s = true := fun w h => ht w (hT w h).1
  have hG : GoodIn Ts ws := fun w h => hT w (by unfold va_wsS; exact List.mem_append_right _ h)
  have hc : Cond.codeWith y bytes maxL ret hh ∈ ws := by rw [hw]; exact List.mem_cons_self
  refine ⟨⟨hrc, hrs, hR.1, hR.2, pay_in ht hG, hc⟩, ht _ (hG _ hc).1, ok _ (by simp [va_wsS]), ⟨hd.1, hd.2.1⟩, fun sig h => ?_, ok _ (by simp [va_wsS]), ok _ (by simp [va_wsS])⟩
  have h2 := hd.2.2
  rw [h] at h2
  exact (Option.some.inj h2).symm
theorem vx_callSW (X : Stand p l e R s m args below meth c T locs cells slots) (hexec : p.tables.exec = Jvm.exec) {own : String} {index : Nat} {y : MethodName} {bytes : ByteArray} {maxL : Nat} {ret : Option FieldType} {hh : List (Nat × Nat × Nat × Nat)}
    (hown : s.vm.findClass own = some m.cls) (hlink : (Cond.methodLink own index y).before args s = true) (hstat : (Cond.static y).before args s = true) (hinit : (Cond.initialized y.cls).before args s = true)
    (hcode : (Cond.codeWith y bytes maxL ret hh).before args s = true) (hy : y.cls ≠ "java/lang/invoke/MethodHandle" ∧ y.cls ≠ "java/lang/invoke/VarHandle")
    {W9 : Nat} {Pre : Pt → Array Value → Prop} {Post : Pt → Array Value → Option Value → Pt → Prop} (hK : Back l R p e below s args y 3 W9 Pre Post)
    {g : JFrame} (hg : g.method = m) (hsize : g.locals.size = c.maxLocals) {argsL rest : List Value} (hlen : ∀ sig, parseMethodDescriptor y.desc = some sig → argsL.length = sig.parameters.length)
    (hstack : g.stack = argsL.reverse ++ rest) (hW : 2 * g.monitorRoom + (rest.map fun v => v.category).sum ≤ W9) (hdg : decode c.code g.pc = .ok (.invokestatic index, 3))
    (hpre : ∀ vm₁, s.WarmedH vm₁ → Pre ⟨T.setVm vm₁, locs, cells, slots⟩ argsL.toArray) :
    ∃ (v : Option Value) (vm₁ : Vm) (B : Pt), s.WarmedH vm₁ ∧ Stand p l e R s m args below meth c B.U B.locs B.cells B.slots ∧ Post ⟨T.setVm vm₁, locs, cells, slots⟩ argsL.toArray v B ∧
      ∀ target, Steps p.tables e below (B.U.setTop { g with pc := g.pc + 3, stack := v.toList ++ rest }) target → Steps p.tables e below (T.setTop g) target := by
  obtain ⟨mk, methM, cM, hnamed, hmethM, -, -, -, -, -, -, hsigM⟩ := Cond.codeWith_spec hcode
  have hstatic : methM.isStatic = true := Cond.static_spec hnamed hmethM hstat
  obtain ⟨kP, hkP, -⟩ := className_of_methodNamed hnamed
  have hinitP : kP.init = .initialized := Cond.initialized_spec (findClass_of_methodNamed hnamed) hkP hinit
  obtain ⟨vm₁, X₁, hstep₁⟩ := X.invokestatic hexec hown hlink hnamed hmethM hstatic hkP hinitP hy (g := g) hg (argsL := argsL) (rest := rest) (hlen _ hsigM) hstack hdg
  obtain ⟨v, B, X', hpost, hsteps⟩ := hK m meth c ⟨T.setVm vm₁, locs, cells, slots⟩ { g with stack := rest } (.invokestatic index) mk argsL.toArray X₁ hg hsize hdg hW (X₁.named hnamed) (hpre vm₁ X₁.warmed)
  exact ⟨v, vm₁, B, X₁.warmed, X', hpost, fun target h => hstep₁ _ fun acts => by rw [doInvoke_state]; exact hsteps.trans h⟩
theorem vx_runSW {y : MethodName} {bytes cc : ByteArray} {maxL nL mc ms n index : Nat} {ret : Option FieldType} {hh : List (Nat × Nat × Nat × Nat)} {ws : List Cond} {rm : Room} {Pc : Array Value → State → Prop} {Qc : Array Value → State → Outcome → State → Prop} {free : Addr → Prop} {Ts : List Cond} {own : String} {As rest : List Value} {g : JFrame}
    (S : CallFix p m c cc nL s args Ts own) (hM : Met l y ws rm Pc Qc mc ms free) (cw : vx_CSW R s args own index y bytes maxL ret hh ws rm mc ms n) (hp : PreS s H Pc As)
    (hg : g.method = m) (hn : As.length = n) (hsize : g.locals.size = nL) (hstack : g.stack = As.reverse ++ rest) (hW : 2 * g.monitorRoom + (rest.map fun v => v.category).sum ≤ 8) (hdg : decode cc g.pc = .ok (.invokestatic index, 3)) (hf : cells + mc ≤ R.cells ∧ slots + ms ≤ R.slots) :
    va_Run p l e R s m args below meth c H locs cells slots mc ms g rest (Qc As.toArray) (free) := by
  obtain ⟨⟨hrc, hrs, hfr, hlo, hws, hcw⟩, hcode, hini, hy, hlen, hl, hstt⟩ := cw
  have hK : Back l R p e below s args y 3 8 (PreOf R mc ms Pc) (PostOf Qc mc ms free) := va_backW (hh := hh) (bytes := bytes) (maxL := maxL) (ret := ret) hM hp.1 hrc hrs hfr hlo hws hcw (fun a' U hW => word_at hW (Or.inl (by first | rfl | simp [Cond.onTables, Cond.keeps, Cond.steady])) hini)
  obtain ⟨hx, hb, hml, ho, -⟩ := S
  intro T hT X
  obtain ⟨v, vm₁, ⟨U', l2, c2, s2⟩, hW₁, X', ⟨g', mk, t, L, e1, e2, hq, h1, hL, h2, h3⟩, st⟩ := vx_callSW X hx (hh := hh) (bytes := bytes) (maxL := maxL) (ret := ret) ho hl hstt hini hcode hy hK hg (hsize.trans hml.symm) (argsL := As) (rest := rest) (fun sig h => hn.trans (hlen sig h)) hstack hW (by rw [hb]; exact hdg)
    (fun vm₁ hW₁ => ⟨hf.1, hf.2, hp.2 (T.setVm vm₁) hT hW₁⟩)
  dsimp only [Pt.U, Pt.locs, Pt.cells, Pt.slots] at X' e1 e2 h1 h2 h3 st
  subst h1; subst h2; subst h3
  exact ⟨v, (T.setVm vm₁).calling g' mk As.toArray, t, U', L, hT, X', hL, e1, e2, hq, st⟩
/-- not caught here, past rows that name other classes: it goes on to the caller -/
theorem vx_outP {p : Program} {l : Launch} {e : Env} {R : Room} {s : State} {m : MethodId} {args : Array Value} {below : List Frame} {meth : Method} {c : Code} {H : Heap} {locs : List Loc} {cells slots : Nat} {free : Addr → Prop} {ls : Array Slot} {rest : List Value} {Qc : Array Value → State → Outcome → State → Prop} {XC : String → State → State → Prop}
    {pc : Nat} {own E : String} {ce : Cell} {q : Addr} {mc ms : Nat} (hown : s.vm.findClass own = some m.cls) (hlocks : meth.locks = false)
    (hpass : ∀ z ∈ c.exceptionTable.toList, covers z pc = false ∨ (z.catchType ≠ 0 ∧ ∃ nm : String, (Cond.classLink own z.catchType nm).before args s = true ∧ va_Nc E nm s)) (hcell : H[q]? = some ce) (hv : ce.vm = .none) (hcl : s.vm.findClass E = some ce.cls)
    (hx : ∀ t : State, t.heap = H → s.vm.Alike t.vm → XC E s t) (hf : ∀ z ∈ locs, free z.base) (hc : cells ≤ mc) (hs : slots ≤ ms) :
    vx_W p l e R s m args below meth c H locs cells slots (vx_MQ below Qc XC args s mc ms free) (F0 m pc ls rest) q := by
  intro T hT X
  have hpl : e.platform.magicAccessors = ({} : Platform).magicAccessors := by rw [X.admits.platform]
  obtain ⟨vm', hW', X', st⟩ := X.outThrough hlocks q (g := F0 m pc ls rest) rfl rfl rfl (cell := ce) (by rw [hT]; exact hcell) (by rw [hv]; rfl)
    (by obtain ⟨k9, h9, -⟩ := Vm.findClass_spec hcl; exact ⟨k9, h9⟩) (fun z hz => by
      rcases hpass z hz with h | ⟨hz0, nm, hl1, hn1⟩
      · exact Or.inl h
      · obtain ⟨c6, hc6, hcl6⟩ := Cond.classLink_spec hown hl1 e.platform hpl
        obtain ⟨a8, b8, h1, h2, h3⟩ := hn1
        cases Option.some.inj (h1.symm.trans hcl)
        cases Option.some.inj (h2.symm.trans hc6)
        exact Or.inr ⟨hz0, _, hcl6, h3⟩)
  obtain ⟨g₀, hfr⟩ := X'.frames_eq
  have hcell9 : ((T.setVm vm').setFrames (.throwing q :: below)).heap[q]? = some ce := by
    show T.heap[q]? = some ce
    rw [hT]; exact hcell
  have hend : Ended ((T.setVm vm').setFrames (.throwing q :: below)) below (.threw q) := State.frames_setFrames _ (State.cur_lt_of_frames hfr)
  refine ⟨(T.setVm vm').setFrames (.throwing q :: below), ?_, .threw q, X'.here.running, hend, Or.inr ⟨q, rfl, E, ce, locs, hx _ hT (X'.ends _).1.alike, hcell9, hv, hcl, (X'.ends _).1, (X'.ends _).2.mono hc hs, hf⟩⟩
  rw [X.pushThrowing_eq]
  exact st
/-- a thing of a world lies in the heap -/
theorem vx_lt {D : va_G} {cl : List vw_C} {ws : va_W} {H1 : Heap} (h : va_P D cl ws H1) {k : Nat} {q : Nat × va_E} (hk : ws[k]? = some q) : q.1 < H1.size := (h k q hk).lt
end VXS
/-! ===== END ===== -/
/-! ===== BEGIN methods with a table of their own: called by a name, returning or throwing ===== -/
section VXH
/-! vx_backW, vx_callVX, vx_callSX, vx_callVW, vx_runVW, vx_runVX, vx_runSX, vx_ofWH follow the same proofs as their sisters above (Free/Laws.lean, Shelf42/LK1.lean); vx_outP calls Shelf42/NT130.lean (outThrough). -/
section
variable {l : Launch} {R : Room} {p : Program} {e : Env} {below : List Frame} {s : State} {sargs : Array Value} {y : MethodName} {len W9 : Nat}
theorem vx_backW {ws : List Cond} {rm : Room} {Pc : Array Value → State → Prop} {Qc : Array Value → State → Outcome → State → Prop} {XC : String → State → State → Prop} {mc ms : Nat} {free : Addr → Prop} {bytes : ByteArray} {maxL : Nat} {ret : Option FieldType} {hh : List (Nat × Nat × Nat × Nat)}
    (hM : vx_Met l y ws rm Pc Qc XC mc ms free) (hblind : FrameBlind Pc) (hrc : rm.cells = mc) (hrs : rm.slots = ms)
    (hframes : rm.frames + 1 ≤ R.frames) (hlocals : W9 + (maxL + 11) + rm.locals ≤ R.locals)
    (hws : ∀ w ∈ ws, ∀ a' U, s.WarmedH U.vm → w.before a' U = true) (hcode : Cond.codeWith y bytes maxL ret hh ∈ ws) (hinit : ∀ a' U, s.WarmedH U.vm → (Cond.initialized y.cls).before a' U = true) :
    vx_Back l R p e below s sargs y len W9 (PreOf R mc ms Pc) (PostOf Qc mc ms free) (vx_Post XC mc ms free) := by
  intro m meth c A g ig mk a X hg hsize hdg hW hn hp
  have h1 : (headSpec ws rm).pre.before a A.U = true := atoms_intro fun w hw => hws w hw _ _ X.warmed
  have h2 : (Cond.codeWith y bytes maxL ret hh).before a A.U = true := hws _ hcode _ _ X.warmed
  have h3 : (Cond.initialized y.cls).before a A.U = true := hinit _ _ X.warmed
  have h4 : A.cells + (headSpec ws rm).room.cells ≤ R.cells := by rw [show (headSpec ws rm).room.cells = mc from hrc]; exact hp.1
  have h5 : A.slots + (headSpec ws rm).room.slots ≤ R.slots := by rw [show (headSpec ws rm).room.slots = ms from hrs]; exact hp.2.1
  have hPc : Pc a (A.U.calling g mk a) := hblind _ _ _ _ hp.2.2
  obtain ⟨U, Ls, c0, s0⟩ := A
  dsimp only [Pt.U, Pt.locs, Pt.cells, Pt.slots] at h1 h2 h3 h4 h5 X hn hPc ⊢
  obtain ⟨m9, methY, cY, hn9, hmY, hcY, -, hlY, -⟩ := Cond.codeWith_spec h2
  cases Option.some.inj (hn9.symm.trans hn)
  obtain ⟨kY, hkY, -⟩ := className_of_methodNamed hn
  have hinitY : kY.init = .initialized := Cond.initialized_spec (findClass_of_methodNamed hn) hkY h3
  have h : At U g.method c below := by rw [hg]; exact X.here
  have hlocals9 : W9 + (maxL + 11) + (headSpec ws rm).room.locals ≤ R.locals := hlocals
  have happ : (headSpec ws rm).appliesLoose y e.platform (U.calling g mk a) = true :=
    Spec.appliesLoose_calling (g := g) h hdg hn hkY hinitY
      (X.room_calling (g := g) (R' := (headSpec ws rm).room) hsize hmY hcY hframes (by rw [hlY]; omega) h4 h5) h1
  obtain ⟨mid, hmid⟩ := h.above
  have hfr : (U.setTop g).frames = (.java g :: mid) ++ below := by rw [State.frames_setTop' g h.top, hmid]; rfl
  obtain ⟨o, s₂, hsteps, -, hend, hq⟩ := Steps.callFree hM p X.admits X.cas X.clock (acts := []) hfr happ hPc trivial
  have hq' : vx_Q Qc XC mc ms free a (U.calling g mk a) o s₂ := hq
  rw [State.frames_setTop' g h.top] at hend
  obtain ⟨g₀, hg0⟩ := Option.isSome_iff_exists.mp h.top
  obtain ⟨r, hr⟩ := State.topJava?_eq_some.mp hg0
  have hr' : (({ U with heap := s₂.heap, slotsUsed := s₂.slotsUsed } : State).setVm s₂.vm).frames = .java g₀ :: r := hr
  rcases hq' with ⟨hqc, L, hfe, hL⟩ | ⟨q, rfl, E, ce, L, hx, hce, hcv, hcl, hW₂, hsm, hL⟩
  · obtain ⟨⟨v, rfl⟩, hW₂, e2, q2, q3, q4, q5, q6⟩ := id hfe
    have e3 : s₂ = ({ (U.calling g mk a).setFrames s₂.frames with heap := s₂.heap, slotsUsed := s₂.slotsUsed } : State).setVm s₂.vm := by
      have : s₂ = ({ s₂ with vm := (U.calling g mk a).vm } : State).setVm s₂.vm := rfl
      rw [e2] at this
      exact this
    obtain ⟨c₂, i₂, len₂, hc₂, hd₂, hf₂⟩ := hend
    have hW' : U.WarmedH s₂.vm := hW₂
    have hcc : c₂ = c := by
      have h1 : s₂.code? g.method = U.code? g.method := by
        rw [State.code?_eq, State.code?_eq, hW'.alike.method?]
      exact Option.some.inj (hc₂.symm.trans (h1.trans h.code))
    subst hcc
    have hlen : len₂ = len := by rw [hdg] at hd₂; cases hd₂; rfl
    subst hlen
    have hs₂ : s₂ = (({ U with heap := s₂.heap, slotsUsed := s₂.slotsUsed } : State).setVm s₂.vm).setTop { g with pc := g.pc + len₂, stack := v.toList ++ g.stack } := by
      refine e3.trans ?_
      rw [hf₂, State.calling_eq h.top, State.setFrames_setFrames, State.setTop_of_frames _ hr', hr]
      rfl
    have hsame : U.sameButNew ({ U with heap := s₂.heap, slotsUsed := s₂.slotsUsed } : State) L mc ms := by
      refine ⟨?_, q2, q3, q4, q5, q6⟩
      obtain ⟨t, ht, -⟩ := State.frames_cons hr
      show ({ U with heap := s₂.heap, slotsUsed := s₂.slotsUsed } : State) = { U.setFrames U.frames with heap := s₂.heap, slotsUsed := s₂.slotsUsed }
      rw [State.setFrames_self ht]
    subst hg
    refine Or.inl ⟨v, ⟨(({ U with heap := s₂.heap, slotsUsed := s₂.slotsUsed } : State).setVm s₂.vm), Ls ++ L, c0 + mc, s0 + ms⟩,
      ⟨X.admits, X.cas, X.clock, X.frames, X.room, X.hears, X.method, X.code, (X.here.setHeapUsed s₂.heap s₂.slotsUsed).setVm hW'.alike, X.tail, State.WarmedH.trans X.warmed hW', X.limits, X.bytes, X.same.trans (hsame.setVm s.vm)⟩,
      ⟨g, mk, s₂, L, rfl, rfl, hqc, rfl, hL, rfl, rfl⟩, ?_⟩
    show Steps p.tables e below _ ((({ U with heap := s₂.heap, slotsUsed := s₂.slotsUsed } : State).setVm s₂.vm).setTop { g with pc := g.pc + len₂, stack := v.toList ++ g.stack })
    rw [← hs₂]
    exact hsteps
  · obtain ⟨e2, q2, q3, q4, q5, q6⟩ := id hsm
    have e3 : s₂ = ({ (U.calling g mk a).setFrames s₂.frames with heap := s₂.heap, slotsUsed := s₂.slotsUsed } : State).setVm s₂.vm := by
      have : s₂ = ({ s₂ with vm := (U.calling g mk a).vm } : State).setVm s₂.vm := rfl
      rw [e2] at this
      exact this
    have hf₂ : s₂.frames = .throwing q :: .java g :: U.frames.tail := hend
    have hW' : U.WarmedH s₂.vm := hW₂
    have hs₂ : s₂ = ((({ U with heap := s₂.heap, slotsUsed := s₂.slotsUsed } : State).setVm s₂.vm).setTop g).pushFrame (.throwing q) := by
      refine e3.trans ?_
      rw [hf₂, State.calling_eq h.top, State.setFrames_setFrames, State.pushFrame, State.frames_setTop _ hr', State.setTop_of_frames _ hr', State.setFrames_setFrames, hr]
      rfl
    have hsame : U.sameButNew ({ U with heap := s₂.heap, slotsUsed := s₂.slotsUsed } : State) L mc ms := by
      refine ⟨?_, q2, q3, q4, q5, q6⟩
      obtain ⟨t, ht, -⟩ := State.frames_cons hr
      show ({ U with heap := s₂.heap, slotsUsed := s₂.slotsUsed } : State) = { U.setFrames U.frames with heap := s₂.heap, slotsUsed := s₂.slotsUsed }
      rw [State.setFrames_self ht]
    subst hg
    refine Or.inr ⟨q, ⟨(({ U with heap := s₂.heap, slotsUsed := s₂.slotsUsed } : State).setVm s₂.vm), Ls ++ L, c0 + mc, s0 + ms⟩,
      ⟨X.admits, X.cas, X.clock, X.frames, X.room, X.hears, X.method, X.code, (X.here.setHeapUsed s₂.heap s₂.slotsUsed).setVm hW'.alike, X.tail, State.WarmedH.trans X.warmed hW', X.limits, X.bytes, X.same.trans (hsame.setVm s.vm)⟩,
      ⟨g, mk, s₂, L, E, ce, rfl, rfl, hx, hce, hcv, hcl, rfl, hL, rfl, rfl⟩, ?_⟩
    show Steps p.tables e below _ (((({ U with heap := s₂.heap, slotsUsed := s₂.slotsUsed } : State).setVm s₂.vm).setTop g).pushFrame (.throwing q))
    rw [← hs₂]
    exact hsteps
end
variable {p : Program} {l : Launch} {e : Env} {R : Room} {s : State} {m : MethodId} {args : Array Value} {below : List Frame} {meth : Method} {c : Code} {T : State} {H : Heap} {locs : List Loc} {cells slots : Nat}
theorem vx_callVX (X : Stand p l e R s m args below meth c T locs cells slots) (hexec : p.tables.exec = Jvm.exec) {own C : String} {index : Nat} {y : MethodName} {bytes : ByteArray} {maxL : Nat} {ret : Option FieldType} {hh : List (Nat × Nat × Nat × Nat)}
    (hown : s.vm.findClass own = some m.cls) (hlink : (Cond.methodLink own index y).before args s = true) (hinst : (Cond.instanceMethod y).before args s = true) (hsel : (Cond.selects C y y).before args s = true)
    (hcode : (Cond.codeWith y bytes maxL ret hh).before args s = true) (hy : y.cls ≠ "java/lang/invoke/MethodHandle" ∧ y.cls ≠ "java/lang/invoke/VarHandle")
    {W9 : Nat} {Pre : Pt → Array Value → Prop} {Post : Pt → Array Value → Option Value → Pt → Prop} {PostX : Pt → Array Value → Addr → Pt → Prop} (hK : vx_Back l R p e below s args y 3 W9 Pre Post PostX)
    {b : Addr} {cellB : Cell} (hcell : T.heap[b]? = some cellB) (hobj : cellB.vm.isStatics = false) (hcls : s.vm.findClass C = some cellB.cls)
    {g : JFrame} (hg : g.method = m) (hsize : g.locals.size = c.maxLocals) {argsL rest : List Value} (hlen : ∀ sig, parseMethodDescriptor y.desc = some sig → argsL.length = sig.parameters.length)
    (hstack : g.stack = argsL.reverse ++ .ref b :: rest) (hW : 2 * g.monitorRoom + (rest.map fun v => v.category).sum ≤ W9) (hdg : decode c.code g.pc = .ok (.invokevirtual index, 3))
    (hpre : ∀ vm₁, s.WarmedH vm₁ → Pre ⟨T.setVm vm₁, locs, cells, slots⟩ (Value.ref b :: argsL).toArray) :
    (∃ (v : Option Value) (vm₁ : Vm) (B : Pt), s.WarmedH vm₁ ∧ Stand p l e R s m args below meth c B.U B.locs B.cells B.slots ∧ Post ⟨T.setVm vm₁, locs, cells, slots⟩ (Value.ref b :: argsL).toArray v B ∧
      ∀ target, Steps p.tables e below (B.U.setTop { g with pc := g.pc + 3, stack := v.toList ++ rest }) target → Steps p.tables e below (T.setTop g) target) ∨
    (∃ (q : Addr) (vm₁ : Vm) (B : Pt), s.WarmedH vm₁ ∧ Stand p l e R s m args below meth c B.U B.locs B.cells B.slots ∧ PostX ⟨T.setVm vm₁, locs, cells, slots⟩ (Value.ref b :: argsL).toArray q B ∧
      Steps p.tables e below (T.setTop g) ((B.U.setTop { g with stack := rest }).pushFrame (.throwing q))) := by
  obtain ⟨mk, methM, hnamed, hmethM, hstM, habM⟩ := Cond.instanceMethod_spec hinst
  obtain ⟨m8, methM', cM, hn8, hmethM', -, -, -, -, -, -, hsigM⟩ := Cond.codeWith_spec hcode
  cases Option.some.inj (hn8.symm.trans hnamed)
  cases hmethM.symm.trans hmethM'
  obtain ⟨c2, r2, m2, q1, q2, q3, q4, kP, hkP, hkPi⟩ := Cond.selects_spec hsel
  cases hcls.symm.trans q1
  cases (State.methodFound?_of_named hnamed hy).symm.trans q2
  cases hnamed.symm.trans q3
  have hselP : selectMethod e.platform s.vm cellB.cls mk = .method mk := by rw [Launch.admits_selectMethod X.admits]; exact q4
  obtain ⟨vm₁, X₁, hstep₁⟩ := X.invokevirtual hexec hown hlink hnamed hmethM hstM hkP hkPi hy (a := b) (cell := cellB) hcell
    (fun z h => by rw [h] at hobj; cases hobj) hselP hmethM habM hkP hkPi (g := g) hg (argsL := argsL) (rest := rest) (hlen _ hsigM) hstack hdg
  rcases hK m meth c ⟨T.setVm vm₁, locs, cells, slots⟩ { g with stack := rest } (.invokevirtual index) mk (Value.ref b :: argsL).toArray X₁ hg hsize hdg hW (X₁.named hnamed) (hpre vm₁ X₁.warmed) with ⟨v, B, X', hpost, hsteps⟩ | ⟨q, B, X', hpost, hsteps⟩
  · exact Or.inl ⟨v, vm₁, B, X₁.warmed, X', hpost, fun target h => hstep₁ _ fun acts => by rw [doInvoke_state]; exact hsteps.trans h⟩
  · exact Or.inr ⟨q, vm₁, B, X₁.warmed, X', hpost, hstep₁ _ fun acts => by rw [doInvoke_state]; exact hsteps⟩
theorem vx_callSX (X : Stand p l e R s m args below meth c T locs cells slots) (hexec : p.tables.exec = Jvm.exec) {own : String} {index : Nat} {y : MethodName} {bytes : ByteArray} {maxL : Nat} {ret : Option FieldType} {hh : List (Nat × Nat × Nat × Nat)}
    (hown : s.vm.findClass own = some m.cls) (hlink : (Cond.methodLink own index y).before args s = true) (hstat : (Cond.static y).before args s = true) (hinit : (Cond.initialized y.cls).before args s = true)
    (hcode : (Cond.codeWith y bytes maxL ret hh).before args s = true) (hy : y.cls ≠ "java/lang/invoke/MethodHandle" ∧ y.cls ≠ "java/lang/invoke/VarHandle")
    {W9 : Nat} {Pre : Pt → Array Value → Prop} {Post : Pt → Array Value → Option Value → Pt → Prop} {PostX : Pt → Array Value → Addr → Pt → Prop} (hK : vx_Back l R p e below s args y 3 W9 Pre Post PostX)
    {g : JFrame} (hg : g.method = m) (hsize : g.locals.size = c.maxLocals) {argsL rest : List Value} (hlen : ∀ sig, parseMethodDescriptor y.desc = some sig → argsL.length = sig.parameters.length)
    (hstack : g.stack = argsL.reverse ++ rest) (hW : 2 * g.monitorRoom + (rest.map fun v => v.category).sum ≤ W9) (hdg : decode c.code g.pc = .ok (.invokestatic index, 3))
    (hpre : ∀ vm₁, s.WarmedH vm₁ → Pre ⟨T.setVm vm₁, locs, cells, slots⟩ argsL.toArray) :
    (∃ (v : Option Value) (vm₁ : Vm) (B : Pt), s.WarmedH vm₁ ∧ Stand p l e R s m args below meth c B.U B.locs B.cells B.slots ∧ Post ⟨T.setVm vm₁, locs, cells, slots⟩ argsL.toArray v B ∧
      ∀ target, Steps p.tables e below (B.U.setTop { g with pc := g.pc + 3, stack := v.toList ++ rest }) target → Steps p.tables e below (T.setTop g) target) ∨
    (∃ (q : Addr) (vm₁ : Vm) (B : Pt), s.WarmedH vm₁ ∧ Stand p l e R s m args below meth c B.U B.locs B.cells B.slots ∧ PostX ⟨T.setVm vm₁, locs, cells, slots⟩ argsL.toArray q B ∧
      Steps p.tables e below (T.setTop g) ((B.U.setTop { g with stack := rest }).pushFrame (.throwing q))) := by
  obtain ⟨mk, methM, cM, hnamed, hmethM, -, -, -, -, -, -, hsigM⟩ := Cond.codeWith_spec hcode
  have hstatic : methM.isStatic = true := Cond.static_spec hnamed hmethM hstat
  obtain ⟨kP, hkP, -⟩ := className_of_methodNamed hnamed
  have hinitP : kP.init = .initialized := Cond.initialized_spec (findClass_of_methodNamed hnamed) hkP hinit
  obtain ⟨vm₁, X₁, hstep₁⟩ := X.invokestatic hexec hown hlink hnamed hmethM hstatic hkP hinitP hy (g := g) hg (argsL := argsL) (rest := rest) (hlen _ hsigM) hstack hdg
  rcases hK m meth c ⟨T.setVm vm₁, locs, cells, slots⟩ { g with stack := rest } (.invokestatic index) mk argsL.toArray X₁ hg hsize hdg hW (X₁.named hnamed) (hpre vm₁ X₁.warmed) with ⟨v, B, X', hpost, hsteps⟩ | ⟨q, B, X', hpost, hsteps⟩
  · exact Or.inl ⟨v, vm₁, B, X₁.warmed, X', hpost, fun target h => hstep₁ _ fun acts => by rw [doInvoke_state]; exact hsteps.trans h⟩
  · exact Or.inr ⟨q, vm₁, B, X₁.warmed, X', hpost, hstep₁ _ fun acts => by rw [doInvoke_state]; exact hsteps⟩
theorem vx_callVW (X : Stand p l e R s m args below meth c T locs cells slots) (hexec : p.tables.exec = Jvm.exec) {own C : String} {index : Nat} {y : MethodName} {bytes : ByteArray} {maxL : Nat} {ret : Option FieldType} {hh : List (Nat × Nat × Nat × Nat)}
    (hown : s.vm.findClass own = some m.cls) (hlink : (Cond.methodLink own index y).before args s = true) (hinst : (Cond.instanceMethod y).before args s = true) (hsel : (Cond.selects C y y).before args s = true)
    (hcode : (Cond.codeWith y bytes maxL ret hh).before args s = true) (hy : y.cls ≠ "java/lang/invoke/MethodHandle" ∧ y.cls ≠ "java/lang/invoke/VarHandle")
    {W9 : Nat} {Pre : Pt → Array Value → Prop} {Post : Pt → Array Value → Option Value → Pt → Prop} (hK : Back l R p e below s args y 3 W9 Pre Post)
    {b : Addr} {cellB : Cell} (hcell : T.heap[b]? = some cellB) (hobj : cellB.vm.isStatics = false) (hcls : s.vm.findClass C = some cellB.cls)
    {g : JFrame} (hg : g.method = m) (hsize : g.locals.size = c.maxLocals) {argsL rest : List Value} (hlen : ∀ sig, parseMethodDescriptor y.desc = some sig → argsL.length = sig.parameters.length)
    (hstack : g.stack = argsL.reverse ++ .ref b :: rest) (hW : 2 * g.monitorRoom + (rest.map fun v => v.category).sum ≤ W9) (hdg : decode c.code g.pc = .ok (.invokevirtual index, 3))
    (hpre : ∀ vm₁, s.WarmedH vm₁ → Pre ⟨T.setVm vm₁, locs, cells, slots⟩ (Value.ref b :: argsL).toArray) :
    ∃ (v : Option Value) (vm₁ : Vm) (B : Pt), s.WarmedH vm₁ ∧ Stand p l e R s m args below meth c B.U B.locs B.cells B.slots ∧ Post ⟨T.setVm vm₁, locs, cells, slots⟩ (Value.ref b :: argsL).toArray v B ∧
      ∀ target, Steps p.tables e below (B.U.setTop { g with pc := g.pc + 3, stack := v.toList ++ rest }) target → Steps p.tables e below (T.setTop g) target := by
  obtain ⟨mk, methM, hnamed, hmethM, hstM, habM⟩ := Cond.instanceMethod_spec hinst
  obtain ⟨m8, methM', cM, hn8, hmethM', -, -, -, -, -, -, hsigM⟩ := Cond.codeWith_spec hcode
  cases Option.some.inj (hn8.symm.trans hnamed)
  cases hmethM.symm.trans hmethM'
  obtain ⟨c2, r2, m2, q1, q2, q3, q4, kP, hkP, hkPi⟩ := Cond.selects_spec hsel
  cases hcls.symm.trans q1
  cases (State.methodFound?_of_named hnamed hy).symm.trans q2
  cases hnamed.symm.trans q3
  have hselP : selectMethod e.platform s.vm cellB.cls mk = .method mk := by rw [Launch.admits_selectMethod X.admits]; exact q4
  obtain ⟨vm₁, X₁, hstep₁⟩ := X.invokevirtual hexec hown hlink hnamed hmethM hstM hkP hkPi hy (a := b) (cell := cellB) hcell
    (fun z h => by rw [h] at hobj; cases hobj) hselP hmethM habM hkP hkPi (g := g) hg (argsL := argsL) (rest := rest) (hlen _ hsigM) hstack hdg
  obtain ⟨v, B, X', hpost, hsteps⟩ := hK m meth c ⟨T.setVm vm₁, locs, cells, slots⟩ { g with stack := rest } (.invokevirtual index) mk (Value.ref b :: argsL).toArray X₁ hg hsize hdg hW (X₁.named hnamed) (hpre vm₁ X₁.warmed)
  exact ⟨v, vm₁, B, X₁.warmed, X', hpost, fun target h => hstep₁ _ fun acts => by rw [doInvoke_state]; exact hsteps.trans h⟩
abbrev vx_CVW (R : Room) (s : State) (args : Array Value) (own C : String) (index : Nat) (y : MethodName) (bytes : ByteArray) (maxL : Nat) (ret : Option FieldType) (hh : List (Nat × Nat × Nat × Nat)) (ws : List Cond) (rm : Room) (mc ms n : Nat) : Prop :=
  (rm.cells = mc ∧ rm.slots = ms ∧ rm.frames + 1 ≤ R.frames ∧ 8 + (maxL + 11) + rm.locals ≤ R.locals ∧ (∀ w ∈ ws, ∀ (a' : Array Value) (U : State), s.WarmedH U.vm → w.before a' U = true) ∧ Cond.codeWith y bytes maxL ret hh ∈ ws) ∧
  (Cond.codeWith y bytes maxL ret hh).before args s = true ∧ (Cond.initialized y.cls).before args s = true ∧ (y.cls ≠ "java/lang/invoke/MethodHandle" ∧ y.cls ≠ "java/lang/invoke/VarHandle") ∧
  (∀ sig, parseMethodDescriptor y.desc = some sig → n = sig.parameters.length) ∧ (Cond.methodLink own index y).before args s = true ∧ (Cond.instanceMethod y).before args s = true ∧ (Cond.selects C y y).before args s = true
theorem vx_cwVW {own C : String} {index maxL mc ms : Nat} {y : MethodName} {bytes : ByteArray} {ret : Option FieldType} {hh : List (Nat × Nat × Nat × Nat)} {Ts ws ws' : List Cond} {rm : Room} (n : Nat) (ht : ∀ w ∈ Ts, w.before args s = true) (hT : GoodIn Ts (wsV own index C y ws)) (hw : ws = Cond.codeWith y bytes maxL ret hh :: ws') (hrc : rm.cells = mc) (hrs : rm.slots = ms)
    (hd : y.cls = C ∧ y.cls ≠ "java/lang/invoke/MethodHandle" ∧ y.cls ≠ "java/lang/invoke/VarHandle" ∧ (parseMethodDescriptor y.desc).map (fun d => d.parameters.length) = some n) (hR : rm.frames + 1 ≤ R.frames ∧ 8 + (maxL + 11) + rm.locals ≤ R.locals) :
    vx_CVW R s args own C index y bytes maxL ret hh ws rm mc ms n := by
  obtain ⟨hC, hd⟩ := hd
  subst hC
  have ok : ∀ w ∈ wsV own index y.cls y ws, w.before args s = true := fun w h => ht w (hT w h).1
  have hG : GoodIn Ts ws := fun w h => hT w (by unfold wsV; exact List.mem_append_right _ h)
  have hc : Cond.codeWith y bytes maxL ret hh ∈ ws := by rw [hw]; exact List.mem_cons_self
  refine ⟨⟨hrc, hrs, hR.1, hR.2, pay_in ht hG, hc⟩, ht _ (hG _ hc).1, ok _ (by simp [wsV]), ⟨hd.1, hd.2.1⟩, fun sig h => ?_, ok _ (by simp [wsV]), ok _ (by simp [wsV]), ok _ (by simp [wsV])⟩
  have h2 := hd.2.2
  rw [h] at h2
  exact (Option.some.inj h2).symm
theorem vx_runVW {y : MethodName} {bytes cc : ByteArray} {maxL nL mc ms n index : Nat} {ret : Option FieldType} {hh : List (Nat × Nat × Nat × Nat)} {ws : List Cond} {rm : Room} {Pc : Array Value → State → Prop} {Qc : Array Value → State → Outcome → State → Prop} {free : Addr → Prop} {Ts : List Cond} {own C : String} {b : Addr} {As rest : List Value} {g : JFrame}
    (S : CallFix p m c cc nL s args Ts own) (hM : Met l y ws rm Pc Qc mc ms free) (cw : vx_CVW R s args own C index y bytes maxL ret hh ws rm mc ms n) (hp : PreV s H C b Pc As)
    (hg : g.method = m) (hn : As.length = n) (hsize : g.locals.size = nL) (hstack : g.stack = As.reverse ++ .ref b :: rest) (hW : 2 * g.monitorRoom + (rest.map fun v => v.category).sum ≤ 8) (hdg : decode cc g.pc = .ok (.invokevirtual index, 3)) (hf : cells + mc ≤ R.cells ∧ slots + ms ≤ R.slots) :
    va_Run p l e R s m args below meth c H locs cells slots mc ms g rest (Qc (Value.ref b :: As).toArray) free := by
  obtain ⟨⟨hrc, hrs, hfr, hlo, hws, hcw⟩, hcode, hini, hy, hlen, hl, hin, hse⟩ := cw
  have hK : Back l R p e below s args y 3 8 (PreOf R mc ms Pc) (PostOf Qc mc ms free) := va_backW (hh := hh) (bytes := bytes) (maxL := maxL) (ret := ret) hM hp.1 hrc hrs hfr hlo hws hcw (fun a' U hW => word_at hW (Or.inl (by first | rfl | simp [Cond.onTables, Cond.keeps, Cond.steady])) hini)
  obtain ⟨hx, hb, hml, ho, -⟩ := S
  obtain ⟨-, ⟨cellB, hcB, hoB, hclB⟩, hPc⟩ := hp
  intro T hT X
  obtain ⟨v, vm₁, ⟨U', l2, c2, s2⟩, hW₁, X', ⟨g', mk, t, L, e1, e2, hq, h1, hL, h2, h3⟩, st⟩ := vx_callVW X hx (C := C) (hh := hh) (bytes := bytes) (maxL := maxL) (ret := ret) ho hl hin hse hcode hy hK (by rw [hT]; exact hcB) hoB hclB hg (hsize.trans hml.symm) (argsL := As) (rest := rest) (fun sig h => hn.trans (hlen sig h)) hstack hW (by rw [hb]; exact hdg)
    (fun vm₁ hW₁ => ⟨hf.1, hf.2, hPc (T.setVm vm₁) hT hW₁⟩)
  dsimp only [Pt.U, Pt.locs, Pt.cells, Pt.slots] at X' e1 e2 h1 h2 h3 st
  subst h1; subst h2; subst h3
  exact ⟨v, (T.setVm vm₁).calling g' mk (Value.ref b :: As).toArray, t, U', L, hT, X', hL, e1, e2, hq, st⟩
section
variable {y : MethodName} {bytes cc : ByteArray} {maxL nL mc ms n index : Nat} {ret : Option FieldType} {ws : List Cond} {rm : Room} {Pc : Array Value → State → Prop} {Qc : Array Value → State → Outcome → State → Prop} {XC : String → State → State → Prop} {free : Addr → Prop} {Ts : List Cond} {own C : String} {b : Addr} {As rest : List Value} {g : JFrame}
theorem vx_runVX {hh : List (Nat × Nat × Nat × Nat)} (S : CallFix p m c cc nL s args Ts own) (hM : vx_Met l y ws rm Pc Qc XC mc ms free) (cw : vx_CVW R s args own C index y bytes maxL ret hh ws rm mc ms n) (hp : PreV s H C b Pc As)
    (hg : g.method = m) (hn : As.length = n) (hsize : g.locals.size = nL) (hstack : g.stack = As.reverse ++ .ref b :: rest) (hW : 2 * g.monitorRoom + (rest.map fun v => v.category).sum ≤ 8) (hdg : decode cc g.pc = .ok (.invokevirtual index, 3)) (hf : cells + mc ≤ R.cells ∧ slots + ms ≤ R.slots) :
    vx_Run p l e R s m args below meth c H locs cells slots mc ms g rest (Qc (Value.ref b :: As).toArray) XC free := by
  obtain ⟨⟨hrc, hrs, hfr, hlo, hws, hcw⟩, hcode, hini, hy, hlen, hl, hin, hse⟩ := cw
  have hK : vx_Back l R p e below s args y 3 8 (PreOf R mc ms Pc) (PostOf Qc mc ms free) (vx_Post XC mc ms free) := vx_backW (hh := hh) (bytes := bytes) (maxL := maxL) (ret := ret) hM hp.1 hrc hrs hfr hlo hws hcw (fun a' U hW => word_at hW (Or.inl (by first | rfl | simp [Cond.onTables, Cond.keeps, Cond.steady])) hini)
  obtain ⟨hx, hb, hml, ho, -⟩ := S
  obtain ⟨-, ⟨cellB, hcB, hoB, hclB⟩, hPc⟩ := hp
  intro T hT X
  rcases vx_callVX X hx (C := C) (hh := hh) (bytes := bytes) (maxL := maxL) (ret := ret) ho hl hin hse hcode hy hK (by rw [hT]; exact hcB) hoB hclB hg (hsize.trans hml.symm) (argsL := As) (rest := rest) (fun sig h => hn.trans (hlen sig h)) hstack hW (by rw [hb]; exact hdg)
    (fun vm₁ hW₁ => ⟨hf.1, hf.2, hPc (T.setVm vm₁) hT hW₁⟩) with ⟨v, vm₁, ⟨U', l2, c2, s2⟩, hW₁, X', ⟨g', mk, t, L, e1, e2, hq, h1, hL, h2, h3⟩, st⟩ | ⟨q, vm₁, ⟨U', l2, c2, s2⟩, hW₁, X', ⟨g', mk, t, L, E, ce, e1, e2, hq, hce, hcv, hcl, h1, hL, h2, h3⟩, st⟩
  · dsimp only [Pt.U, Pt.locs, Pt.cells, Pt.slots] at X' e1 e2 h1 h2 h3 st
    subst h1; subst h2; subst h3
    exact Or.inl ⟨v, (T.setVm vm₁).calling g' mk (Value.ref b :: As).toArray, t, U', L, hT, X', hL, e1, e2, hq, st⟩
  · dsimp only [Pt.U, Pt.locs, Pt.cells, Pt.slots] at X' e1 e2 h1 h2 h3 st hcl
    subst h1; subst h2; subst h3
    exact Or.inr ⟨q, (T.setVm vm₁).calling g' mk (Value.ref b :: As).toArray, t, U', L, E, ce, hT, X', hL, e1, e2, hq, hce, hcv, vx_cls hW₁ hcl, st⟩
theorem vx_runSX {hh : List (Nat × Nat × Nat × Nat)} (S : CallFix p m c cc nL s args Ts own) (hM : vx_Met l y ws rm Pc Qc XC mc ms free) (cw : vx_CSW R s args own index y bytes maxL ret hh ws rm mc ms n) (hp : PreS s H Pc As)
    (hg : g.method = m) (hn : As.length = n) (hsize : g.locals.size = nL) (hstack : g.stack = As.reverse ++ rest) (hW : 2 * g.monitorRoom + (rest.map fun v => v.category).sum ≤ 8) (hdg : decode cc g.pc = .ok (.invokestatic index, 3)) (hf : cells + mc ≤ R.cells ∧ slots + ms ≤ R.slots) :
    vx_Run p l e R s m args below meth c H locs cells slots mc ms g rest (Qc As.toArray) XC free := by
  obtain ⟨⟨hrc, hrs, hfr, hlo, hws, hcw⟩, hcode, hini, hy, hlen, hl, hstt⟩ := cw
  have hK : vx_Back l R p e below s args y 3 8 (PreOf R mc ms Pc) (PostOf Qc mc ms free) (vx_Post XC mc ms free) := vx_backW (hh := hh) (bytes := bytes) (maxL := maxL) (ret := ret) hM hp.1 hrc hrs hfr hlo hws hcw (fun a' U hW => word_at hW (Or.inl (by first | rfl | simp [Cond.onTables, Cond.keeps, Cond.steady])) hini)
  obtain ⟨hx, hb, hml, ho, -⟩ := S
  intro T hT X
  rcases vx_callSX X hx (hh := hh) (bytes := bytes) (maxL := maxL) (ret := ret) ho hl hstt hini hcode hy hK hg (hsize.trans hml.symm) (argsL := As) (rest := rest) (fun sig h => hn.trans (hlen sig h)) hstack hW (by rw [hb]; exact hdg)
    (fun vm₁ hW₁ => ⟨hf.1, hf.2, hp.2 (T.setVm vm₁) hT hW₁⟩) with ⟨v, vm₁, ⟨U', l2, c2, s2⟩, hW₁, X', ⟨g', mk, t, L, e1, e2, hq, h1, hL, h2, h3⟩, st⟩ | ⟨q, vm₁, ⟨U', l2, c2, s2⟩, hW₁, X', ⟨g', mk, t, L, E, ce, e1, e2, hq, hce, hcv, hcl, h1, hL, h2, h3⟩, st⟩
  · dsimp only [Pt.U, Pt.locs, Pt.cells, Pt.slots] at X' e1 e2 h1 h2 h3 st
    subst h1; subst h2; subst h3
    exact Or.inl ⟨v, (T.setVm vm₁).calling g' mk As.toArray, t, U', L, hT, X', hL, e1, e2, hq, st⟩
  · dsimp only [Pt.U, Pt.locs, Pt.cells, Pt.slots] at X' e1 e2 h1 h2 h3 st hcl
    subst h1; subst h2; subst h3
    exact Or.inr ⟨q, (T.setVm vm₁).calling g' mk As.toArray, t, U', L, E, ce, hT, X', hL, e1, e2, hq, hce, hcv, vx_cls hW₁ hcl, st⟩
end
end VXH
theorem vx_ofWH {l : Launch} {y : MethodName} {ws ws' : List Cond} {rm : Room} {Pc : Array Value → State → Prop} {Qc : Array Value → State → Outcome → State → Prop} {XC : String → State → State → Prop} {mc ms : Nat} {free : Addr → Prop} {cc : ByteArray} {maxL : Nat} {ret : Option FieldType} {hh : List (Nat × Nat × Nat × Nat)}
    (hy : plainName y.cls = true) (hw : ws = Cond.codeWith y cc maxL ret hh :: ws')
    (body : ∀ p e s m args below meth c s₁, BodyLoose p l y (headSpec ws rm) cc maxL ret e s m args below meth c s₁ → c.maxLocals = maxL → Pc args s →
      W p l e (headSpec ws rm).room s m args below meth c s.heap [] 0 0 (vx_MQ below Qc XC args s mc ms free) (entryFrame m args maxL)) : vx_Met l y ws rm Pc Qc XC mc ms free := by
  refine MetFree.of_bodyS (code := cc) (maxLocals := maxL) (ret := ret) hy ?_ ?_
  · intro args s m h hn
    obtain ⟨m9, meth, c, hn9, h1, h2, h3, h4, -, h5, h6, -⟩ := Cond.codeWith_spec (atoms_spec (ws := ws) h _ (by rw [hw]; exact List.mem_cons_self))
    cases hn.symm.trans hn9
    exact ⟨meth, c, h1, h2, h3, h4, h5, h6⟩
  · intro p e s m args below meth c s₁ B hml hP _
    have hh0 : s₁.heap = s.heap := by rw [B.state]; rfl
    obtain ⟨t, a1, o, b1, b2, b3⟩ := body p e s m args below meth c s₁ B hml hP s₁ hh0 (Stand.of_body B)
    exact ⟨t, o, a1, b1, b2, b3⟩
/-! ===== END ===== -/
end
section
/-! ===== BEGIN a constructor that throws (launches without stack traces) ===== -/
section VXIA
variable {p : Program} {l : Launch} {e : Env} {R : Room} {s : State} {m : MethodId} {args : Array Value} {below : List Frame} {meth : Method} {c : Code} {T : State} {locs : List Loc} {cells slots : Nat}
theorem vx_callI (X : Stand p l e R s m args below meth c T locs cells slots) (hexec : p.tables.exec = Jvm.exec) {own : String} {index : Nat} {y : MethodName} {bytes : ByteArray} {maxL : Nat}
    (hown : s.vm.findClass own = some m.cls) (hy1 : y.name = "<init>") (hlink : (Cond.methodLink own index y).before args s = true) (hinst : (Cond.instanceMethod y).before args s = true)
    (hcode : (Cond.code y bytes maxL none).before args s = true) (hy : y.cls ≠ "java/lang/invoke/MethodHandle" ∧ y.cls ≠ "java/lang/invoke/VarHandle")
    {W9 : Nat} {Pre : Pt → Array Value → Prop} {Post : Pt → Array Value → Option Value → Pt → Prop} {PostX : Pt → Array Value → Addr → Pt → Prop} (hK : vx_Back l R p e below s args y 3 W9 Pre Post PostX)
    {g : JFrame} (hg : g.method = m) (hsize : g.locals.size = c.maxLocals) {a : Addr} {argsL rest : List Value} (hlen : ∀ sig, parseMethodDescriptor y.desc = some sig → argsL.length = sig.parameters.length)
    (hstack : g.stack = argsL.reverse ++ .ref a :: rest) (hW : 2 * g.monitorRoom + (rest.map fun v => v.category).sum ≤ W9) (hdg : decode c.code g.pc = .ok (.invokespecial index, 3))
    (hpre : ∀ vm₁, s.WarmedH vm₁ → Pre ⟨T.setVm vm₁, locs, cells, slots⟩ (Value.ref a :: argsL).toArray) :
    (∃ (v : Option Value) (vm₁ : Vm) (B : Pt), s.WarmedH vm₁ ∧ Stand p l e R s m args below meth c B.U B.locs B.cells B.slots ∧ Post ⟨T.setVm vm₁, locs, cells, slots⟩ (Value.ref a :: argsL).toArray v B ∧
      ∀ target, Steps p.tables e below (B.U.setTop { g with pc := g.pc + 3, stack := v.toList ++ rest }) target → Steps p.tables e below (T.setTop g) target) ∨
    (∃ (q : Addr) (vm₁ : Vm) (B : Pt), s.WarmedH vm₁ ∧ Stand p l e R s m args below meth c B.U B.locs B.cells B.slots ∧ PostX ⟨T.setVm vm₁, locs, cells, slots⟩ (Value.ref a :: argsL).toArray q B ∧
      Steps p.tables e below (T.setTop g) ((B.U.setTop { g with stack := rest }).pushFrame (.throwing q))) := by
  subst hg
  have hpl : e.platform.magicAccessors = ({} : Platform).magicAccessors := by rw [X.admits.platform]
  obtain ⟨mk, methM, cM, kP, vm₁, hnamed, hmethM, hcodeM, -, hlocalsM, -, hkP, -, hW₁, hstep₁⟩ := Steps.initColdArgs (e := e) X.here hexec X.warmed hpl hown hy1 hy hlink hinst hcode (f := g) rfl hlen hstack hdg
  have X₁ := X.noted hW₁
  rcases hK g.method meth c ⟨T.setVm vm₁, locs, cells, slots⟩ { g with stack := rest } (.invokespecial index) mk (Value.ref a :: argsL).toArray X₁ rfl hsize hdg hW (X₁.named hnamed) (hpre vm₁ X₁.warmed) with ⟨v, B, X', hpost, hsteps⟩ | ⟨q, B, X', hpost, hsteps⟩
  · exact Or.inl ⟨v, vm₁, B, X₁.warmed, X', hpost, fun target h => hstep₁ _ fun acts => by rw [doInvoke_state]; exact hsteps.trans h⟩
  · exact Or.inr ⟨q, vm₁, B, X₁.warmed, X', hpost, hstep₁ _ fun acts => by rw [doInvoke_state]; exact hsteps⟩
end VXIA
section VXIB
variable {p : Program} {l : Launch} {e : Env} {R : Room} {s : State} {m : MethodId} {args : Array Value} {below : List Frame} {meth : Method} {c : Code} {H : Heap} {locs : List Loc} {cells slots : Nat}
variable {y : MethodName} {bytes cc : ByteArray} {maxL nL mc ms n index : Nat} {ret : Option FieldType} {ws : List Cond} {rm : Room} {Pc : Array Value → State → Prop} {Qc : Array Value → State → Outcome → State → Prop} {XC : String → State → State → Prop} {free : Addr → Prop} {Ts : List Cond} {own C : String} {b : Addr} {As rest : List Value} {g : JFrame}
theorem vx_runI (S : CallFix p m c cc nL s args Ts own) (hM : vx_Met l y ws rm Pc Qc XC mc ms free) (cw : CallB R s args own index y bytes maxL none ws rm mc ms n ∧ y.name = "<init>" ∧ (Cond.instanceMethod y).before args s = true) (hp : PreS s H Pc (.ref b :: As))
    (hg : g.method = m) (hn : As.length = n) (hsize : g.locals.size = nL) (hstack : g.stack = As.reverse ++ .ref b :: rest) (hW : 2 * g.monitorRoom + (rest.map fun v => v.category).sum ≤ 8) (hdg : decode cc g.pc = .ok (.invokespecial index, 3)) (hf : cells + mc ≤ R.cells ∧ slots + ms ≤ R.slots) :
    vx_Run p l e R s m args below meth c H locs cells slots mc ms g rest (Qc (Value.ref b :: As).toArray) XC free := by
  have hK : vx_Back l R p e below s args y 3 8 (PreOf R mc ms Pc) (PostOf Qc mc ms free) (vx_Post XC mc ms free) := vx_callBack cw.1 hM hp.1
  obtain ⟨⟨-, -, -, -, -, -, hcode, -, hy, hlen, hl⟩, hy1, hin⟩ := cw
  obtain ⟨hx, hb, hml, ho, -⟩ := S
  have hPc := hp.2
  intro T hT X
  rcases vx_callI X hx (bytes := bytes) (maxL := maxL) ho hy1 hl hin hcode hy hK hg (hsize.trans hml.symm) (a := b) (argsL := As) (rest := rest) (fun sig h => hn.trans (hlen sig h)) hstack hW (by rw [hb]; exact hdg)
    (fun vm₁ hW₁ => ⟨hf.1, hf.2, hPc (T.setVm vm₁) hT hW₁⟩) with ⟨v, vm₁, ⟨U', l2, c2, s2⟩, hW₁, X', ⟨g', mk, t, L, e1, e2, hq, h1, hL, h2, h3⟩, st⟩ | ⟨q, vm₁, ⟨U', l2, c2, s2⟩, hW₁, X', ⟨g', mk, t, L, E, ce, e1, e2, hq, hce, hcv, hcl, h1, hL, h2, h3⟩, st⟩
  · dsimp only [Pt.U, Pt.locs, Pt.cells, Pt.slots] at X' e1 e2 h1 h2 h3 st
    subst h1; subst h2; subst h3
    exact Or.inl ⟨v, (T.setVm vm₁).calling g' mk (Value.ref b :: As).toArray, t, U', L, hT, X', hL, e1, e2, hq, st⟩
  · dsimp only [Pt.U, Pt.locs, Pt.cells, Pt.slots] at X' e1 e2 h1 h2 h3 st hcl
    subst h1; subst h2; subst h3
    exact Or.inr ⟨q, (T.setVm vm₁).calling g' mk (Value.ref b :: As).toArray, t, U', L, E, ce, hT, X', hL, e1, e2, hq, hce, hcv, vx_cls hW₁ hcl, st⟩
end VXIB
/-! ===== END ===== -/
/-! ===== BEGIN a private constructor of a nest mate that throws ===== -/
section VXIC
variable {p : Program} {l : Launch} {e : Env} {R : Room} {s : State} {m : MethodId} {args : Array Value} {below : List Frame} {meth : Method} {c : Code} {T : State} {locs : List Loc} {cells slots : Nat}
theorem vx_callIN (X : Stand p l e R s m args below meth c T locs cells slots) (hexec : p.tables.exec = Jvm.exec) {own : String} {index : Nat} {host : String} {y : MethodName} {bytes : ByteArray} {maxL : Nat}
    (hown : s.vm.findClass own = some m.cls) (hy1 : y.name = "<init>") (hlink : (Cond.methodLinkNest own index y host).before args s = true) (hinst : (Cond.instanceMethod y).before args s = true)
    (hcode : (Cond.code y bytes maxL none).before args s = true) (hy : y.cls ≠ "java/lang/invoke/MethodHandle" ∧ y.cls ≠ "java/lang/invoke/VarHandle")
    {W9 : Nat} {Pre : Pt → Array Value → Prop} {Post : Pt → Array Value → Option Value → Pt → Prop} {PostX : Pt → Array Value → Addr → Pt → Prop} (hK : vx_Back l R p e below s args y 3 W9 Pre Post PostX)
    {g : JFrame} (hg : g.method = m) (hsize : g.locals.size = c.maxLocals) {a : Addr} {argsL rest : List Value} (hlen : ∀ sig, parseMethodDescriptor y.desc = some sig → argsL.length = sig.parameters.length)
    (hstack : g.stack = argsL.reverse ++ .ref a :: rest) (hW : 2 * g.monitorRoom + (rest.map fun v => v.category).sum ≤ W9) (hdg : decode c.code g.pc = .ok (.invokespecial index, 3))
    (hpre : ∀ vm₁, s.WarmedH vm₁ → Pre ⟨T.setVm vm₁, locs, cells, slots⟩ (Value.ref a :: argsL).toArray) :
    (∃ (v : Option Value) (vm₁ : Vm) (B : Pt), s.WarmedH vm₁ ∧ Stand p l e R s m args below meth c B.U B.locs B.cells B.slots ∧ Post ⟨T.setVm vm₁, locs, cells, slots⟩ (Value.ref a :: argsL).toArray v B ∧
      ∀ target, Steps p.tables e below (B.U.setTop { g with pc := g.pc + 3, stack := v.toList ++ rest }) target → Steps p.tables e below (T.setTop g) target) ∨
    (∃ (q : Addr) (vm₁ : Vm) (B : Pt), s.WarmedH vm₁ ∧ Stand p l e R s m args below meth c B.U B.locs B.cells B.slots ∧ PostX ⟨T.setVm vm₁, locs, cells, slots⟩ (Value.ref a :: argsL).toArray q B ∧
      Steps p.tables e below (T.setTop g) ((B.U.setTop { g with stack := rest }).pushFrame (.throwing q))) := by
  subst hg
  have hpl : e.platform.magicAccessors = ({} : Platform).magicAccessors := by rw [X.admits.platform]
  obtain ⟨mk, methM, cM, kP, vm₁, hnamed, hmethM, hcodeM, -, hlocalsM, -, hkP, -, hW₁, hstep₁⟩ := Steps.initColdArgsNest (e := e) X.here hexec X.warmed hpl hown hy1 hy hlink hinst hcode (f := g) rfl hlen hstack hdg
  have X₁ := X.noted hW₁
  rcases hK g.method meth c ⟨T.setVm vm₁, locs, cells, slots⟩ { g with stack := rest } (.invokespecial index) mk (Value.ref a :: argsL).toArray X₁ rfl hsize hdg hW (X₁.named hnamed) (hpre vm₁ X₁.warmed) with ⟨v, B, X', hpost, hsteps⟩ | ⟨q, B, X', hpost, hsteps⟩
  · exact Or.inl ⟨v, vm₁, B, X₁.warmed, X', hpost, fun target h => hstep₁ _ fun acts => by rw [doInvoke_state]; exact hsteps.trans h⟩
  · exact Or.inr ⟨q, vm₁, B, X₁.warmed, X', hpost, hstep₁ _ fun acts => by rw [doInvoke_state]; exact hsteps⟩
end VXIC
section VXID
variable {p : Program} {l : Launch} {e : Env} {R : Room} {s : State} {m : MethodId} {args : Array Value} {below : List Frame} {meth : Method} {c : Code} {H : Heap} {locs : List Loc} {cells slots : Nat}
theorem vx_runIN {y : MethodName} {bytes cc : ByteArray} {maxL nL mc ms n index : Nat} {ws : List Cond} {rm : Room} {Pc : Array Value → State → Prop} {Qc : Array Value → State → Outcome → State → Prop} {XC : String → State → State → Prop} {free : Addr → Prop} {Ts : List Cond} {own host : String} {b : Addr} {As rest : List Value} {g : JFrame}
    (S : CallFix p m c cc nL s args Ts own) (hM : vx_Met l y ws rm Pc Qc XC mc ms free) (cw : va_CN R s args own index y host bytes maxL none ws rm mc ms n ∧ y.name = "<init>" ∧ (Cond.instanceMethod y).before args s = true) (hp : PreS s H Pc (.ref b :: As))
    (hg : g.method = m) (hn : As.length = n) (hsize : g.locals.size = nL) (hstack : g.stack = As.reverse ++ .ref b :: rest) (hW : 2 * g.monitorRoom + (rest.map fun v => v.category).sum ≤ 8) (hdg : decode cc g.pc = .ok (.invokespecial index, 3)) (hf : cells + mc ≤ R.cells ∧ slots + ms ≤ R.slots) :
    vx_Run p l e R s m args below meth c H locs cells slots mc ms g rest (Qc (Value.ref b :: As).toArray) XC free := by
  obtain ⟨⟨⟨hrc, hrs, hfr, hlo, hws, hcw⟩, hcode, hini, hy, hlen, hl⟩, hx1, hx2⟩ := cw
  have hK : vx_Back l R p e below s args y 3 8 (PreOf R mc ms Pc) (PostOf Qc mc ms free) (vx_Post XC mc ms free) := vx_back (bytes := bytes) (maxL := maxL) (ret := none) hM hp.1 hrc hrs hfr hlo hws hcw (fun a' U hW => word_at hW (Or.inl (by first | rfl | simp [Cond.onTables, Cond.keeps, Cond.steady])) hini)
  obtain ⟨hx, hb, hml, ho, -⟩ := S
  have hPc := hp.2
  intro T hT X
  rcases vx_callIN X hx (bytes := bytes) (maxL := maxL) ho hx1 hl hx2 hcode hy hK hg (hsize.trans hml.symm) (a := b) (argsL := As) (rest := rest) (fun sig h => hn.trans (hlen sig h)) hstack hW (by rw [hb]; exact hdg)
    (fun vm₁ hW₁ => ⟨hf.1, hf.2, hPc (T.setVm vm₁) hT hW₁⟩) with ⟨v, vm₁, ⟨U', l2, c2, s2⟩, hW₁, X', ⟨g', mk, t, L, e1, e2, hq, h1, hL, h2, h3⟩, st⟩ | ⟨q, vm₁, ⟨U', l2, c2, s2⟩, hW₁, X', ⟨g', mk, t, L, E, ce, e1, e2, hq, hce, hcv, hcl, h1, hL, h2, h3⟩, st⟩
  · dsimp only [Pt.U, Pt.locs, Pt.cells, Pt.slots] at X' e1 e2 h1 h2 h3 st
    subst h1; subst h2; subst h3
    exact Or.inl ⟨v, (T.setVm vm₁).calling g' mk (Value.ref b :: As).toArray, t, U', L, hT, X', hL, e1, e2, hq, st⟩
  · dsimp only [Pt.U, Pt.locs, Pt.cells, Pt.slots] at X' e1 e2 h1 h2 h3 st hcl
    subst h1; subst h2; subst h3
    exact Or.inr ⟨q, (T.setVm vm₁).calling g' mk (Value.ref b :: As).toArray, t, U', L, E, ce, hT, X', hL, e1, e2, hq, hce, hcv, vx_cls hW₁ hcl, st⟩
end VXID
/-! ===== END ===== -/
/-! ===== BEGIN a private method of a nest mate that may throw (follows va_callVN, va_callSN, va_runVN, va_runSN) ===== -/
section
variable {p : Program} {l : Launch} {e : Env} {R : Room} {s : State} {m : MethodId} {args : Array Value} {below : List Frame} {meth : Method} {c : Code} {H : Heap} {locs : List Loc} {cells slots : Nat}
variable {T : State}
theorem vx_callVN (X : Stand p l e R s m args below meth c T locs cells slots) (hexec : p.tables.exec = Jvm.exec) {own C : String} {index : Nat} {host : String} {y : MethodName} {bytes : ByteArray} {maxL : Nat} {ret : Option FieldType}
    (hown : s.vm.findClass own = some m.cls) (hlink : (Cond.methodLinkNest own index y host).before args s = true) (hinst : (Cond.instanceMethod y).before args s = true) (hsel : (Cond.selects C y y).before args s = true)
    (hcode : (Cond.code y bytes maxL ret).before args s = true) (hy : y.cls ≠ "java/lang/invoke/MethodHandle" ∧ y.cls ≠ "java/lang/invoke/VarHandle")
    {W : Nat} {Pre : Pt → Array Value → Prop} {Post : Pt → Array Value → Option Value → Pt → Prop} {PostX : Pt → Array Value → Addr → Pt → Prop} (hK : vx_Back l R p e below s args y 3 W Pre Post PostX)
    {b : Addr} {cellB : Cell} (hcell : T.heap[b]? = some cellB) (hobj : cellB.vm.isStatics = false) (hcls : s.vm.findClass C = some cellB.cls)
    {g : JFrame} (hg : g.method = m) (hsize : g.locals.size = c.maxLocals) {argsL rest : List Value} (hlen : ∀ sig, parseMethodDescriptor y.desc = some sig → argsL.length = sig.parameters.length)
    (hstack : g.stack = argsL.reverse ++ .ref b :: rest) (hW : 2 * g.monitorRoom + (rest.map fun v => v.category).sum ≤ W) (hdg : decode c.code g.pc = .ok (.invokevirtual index, 3))
    (hpre : ∀ vm₁, s.WarmedH vm₁ → Pre ⟨T.setVm vm₁, locs, cells, slots⟩ (Value.ref b :: argsL).toArray) :
    (∃ (v : Option Value) (vm₁ : Vm) (B : Pt), s.WarmedH vm₁ ∧ Stand p l e R s m args below meth c B.U B.locs B.cells B.slots ∧ Post ⟨T.setVm vm₁, locs, cells, slots⟩ (Value.ref b :: argsL).toArray v B ∧
      ∀ target, Steps p.tables e below (B.U.setTop { g with pc := g.pc + 3, stack := v.toList ++ rest }) target → Steps p.tables e below (T.setTop g) target) ∨
    (∃ (q : Addr) (vm₁ : Vm) (B : Pt), s.WarmedH vm₁ ∧ Stand p l e R s m args below meth c B.U B.locs B.cells B.slots ∧ PostX ⟨T.setVm vm₁, locs, cells, slots⟩ (Value.ref b :: argsL).toArray q B ∧
      Steps p.tables e below (T.setTop g) ((B.U.setTop { g with stack := rest }).pushFrame (.throwing q))) := by
  obtain ⟨mk, methM, hnamed, hmethM, hstM, habM⟩ := Cond.instanceMethod_spec hinst
  obtain ⟨methM', cM, hmethM', -, -, -, -, -, -, hsigM⟩ := Cond.code_spec hnamed hcode
  cases hmethM.symm.trans hmethM'
  obtain ⟨c2, r2, m2, q1, q2, q3, q4, kP, hkP, hkPi⟩ := Cond.selects_spec hsel
  cases hcls.symm.trans q1
  cases (State.methodFound?_of_named hnamed hy).symm.trans q2
  cases hnamed.symm.trans q3
  have hselP : selectMethod e.platform s.vm cellB.cls mk = .method mk := by rw [Launch.admits_selectMethod X.admits]; exact q4
  obtain ⟨vm₁, X₁, hstep₁⟩ := X.invokevirtualNest hexec hown hlink hnamed hmethM hstM hkP hkPi hy (a := b) (cell := cellB) hcell
    (fun z h => by rw [h] at hobj; cases hobj) hselP hmethM habM hkP hkPi (g := g) hg (argsL := argsL) (rest := rest) (hlen _ hsigM) hstack hdg
  rcases hK m meth c ⟨T.setVm vm₁, locs, cells, slots⟩ { g with stack := rest } (.invokevirtual index) mk (Value.ref b :: argsL).toArray X₁ hg hsize hdg hW (X₁.named hnamed) (hpre vm₁ X₁.warmed) with ⟨v, B, X', hpost, hsteps⟩ | ⟨q, B, X', hpost, hsteps⟩
  · exact Or.inl ⟨v, vm₁, B, X₁.warmed, X', hpost, fun target h => hstep₁ _ fun acts => by rw [doInvoke_state]; exact hsteps.trans h⟩
  · exact Or.inr ⟨q, vm₁, B, X₁.warmed, X', hpost, hstep₁ _ fun acts => by rw [doInvoke_state]; exact hsteps⟩
theorem vx_callSN (X : Stand p l e R s m args below meth c T locs cells slots) (hexec : p.tables.exec = Jvm.exec) {own : String} {index : Nat} {host : String} {y : MethodName} {bytes : ByteArray} {maxL : Nat} {ret : Option FieldType}
    (hown : s.vm.findClass own = some m.cls) (hlink : (Cond.methodLinkNest own index y host).before args s = true) (hstat : (Cond.static y).before args s = true) (hinit : (Cond.initialized y.cls).before args s = true)
    (hcode : (Cond.code y bytes maxL ret).before args s = true) (hy : y.cls ≠ "java/lang/invoke/MethodHandle" ∧ y.cls ≠ "java/lang/invoke/VarHandle")
    {W : Nat} {Pre : Pt → Array Value → Prop} {Post : Pt → Array Value → Option Value → Pt → Prop} {PostX : Pt → Array Value → Addr → Pt → Prop} (hK : vx_Back l R p e below s args y 3 W Pre Post PostX)
    {g : JFrame} (hg : g.method = m) (hsize : g.locals.size = c.maxLocals) {argsL rest : List Value} (hlen : ∀ sig, parseMethodDescriptor y.desc = some sig → argsL.length = sig.parameters.length)
    (hstack : g.stack = argsL.reverse ++ rest) (hW : 2 * g.monitorRoom + (rest.map fun v => v.category).sum ≤ W) (hdg : decode c.code g.pc = .ok (.invokestatic index, 3))
    (hpre : ∀ vm₁, s.WarmedH vm₁ → Pre ⟨T.setVm vm₁, locs, cells, slots⟩ argsL.toArray) :
    (∃ (v : Option Value) (vm₁ : Vm) (B : Pt), s.WarmedH vm₁ ∧ Stand p l e R s m args below meth c B.U B.locs B.cells B.slots ∧ Post ⟨T.setVm vm₁, locs, cells, slots⟩ argsL.toArray v B ∧
      ∀ target, Steps p.tables e below (B.U.setTop { g with pc := g.pc + 3, stack := v.toList ++ rest }) target → Steps p.tables e below (T.setTop g) target) ∨
    (∃ (q : Addr) (vm₁ : Vm) (B : Pt), s.WarmedH vm₁ ∧ Stand p l e R s m args below meth c B.U B.locs B.cells B.slots ∧ PostX ⟨T.setVm vm₁, locs, cells, slots⟩ argsL.toArray q B ∧
      Steps p.tables e below (T.setTop g) ((B.U.setTop { g with stack := rest }).pushFrame (.throwing q))) := by
  obtain ⟨mk, hnamed⟩ := Cond.code_named hcode
  obtain ⟨methM, cM, hmethM, -, -, -, -, -, -, hsigM⟩ := Cond.code_spec hnamed hcode
  have hstatic : methM.isStatic = true := Cond.static_spec hnamed hmethM hstat
  obtain ⟨kP, hkP, -⟩ := className_of_methodNamed hnamed
  have hinitP : kP.init = .initialized := Cond.initialized_spec (findClass_of_methodNamed hnamed) hkP hinit
  obtain ⟨vm₁, X₁, hstep₁⟩ := X.invokestaticNest hexec hown hlink hnamed hmethM hstatic hkP hinitP hy (g := g) hg (argsL := argsL) (rest := rest) (hlen _ hsigM) hstack hdg
  rcases hK m meth c ⟨T.setVm vm₁, locs, cells, slots⟩ { g with stack := rest } (.invokestatic index) mk argsL.toArray X₁ hg hsize hdg hW (X₁.named hnamed) (hpre vm₁ X₁.warmed) with ⟨v, B, X', hpost, hsteps⟩ | ⟨q, B, X', hpost, hsteps⟩
  · exact Or.inl ⟨v, vm₁, B, X₁.warmed, X', hpost, fun target h => hstep₁ _ fun acts => by rw [doInvoke_state]; exact hsteps.trans h⟩
  · exact Or.inr ⟨q, vm₁, B, X₁.warmed, X', hpost, hstep₁ _ fun acts => by rw [doInvoke_state]; exact hsteps⟩
theorem vx_runVN {y : MethodName} {bytes cc : ByteArray} {maxL nL mc ms n index : Nat} {ret : Option FieldType} {ws : List Cond} {rm : Room} {Pc : Array Value → State → Prop} {Qc : Array Value → State → Outcome → State → Prop} {XC : String → State → State → Prop} {free : Addr → Prop} {Ts : List Cond} {own C host : String} {b : Addr} {As rest : List Value} {g : JFrame}
    (S : CallFix p m c cc nL s args Ts own) (hM : vx_Met l y ws rm Pc Qc XC mc ms free) (cw : va_CN R s args own index y host bytes maxL ret ws rm mc ms n ∧ (Cond.instanceMethod y).before args s = true ∧ (Cond.selects C y y).before args s = true) (hp : PreV s H C b Pc As)
    (hg : g.method = m) (hn : As.length = n) (hsize : g.locals.size = nL) (hstack : g.stack = As.reverse ++ .ref b :: rest) (hW : 2 * g.monitorRoom + (rest.map fun v => v.category).sum ≤ 8) (hdg : decode cc g.pc = .ok (.invokevirtual index, 3)) (hf : cells + mc ≤ R.cells ∧ slots + ms ≤ R.slots) :
    vx_Run p l e R s m args below meth c H locs cells slots mc ms g rest (Qc (Value.ref b :: As).toArray) XC free := by
  obtain ⟨⟨⟨hrc, hrs, hfr, hlo, hws, hcw⟩, hcode, hini, hy, hlen, hl⟩, hx1, hx2⟩ := cw
  have hK : vx_Back l R p e below s args y 3 8 (PreOf R mc ms Pc) (PostOf Qc mc ms free) (vx_Post XC mc ms free) := vx_back (bytes := bytes) (maxL := maxL) (ret := ret) hM hp.1 hrc hrs hfr hlo hws hcw (fun a' U hW => word_at hW (Or.inl (by first | rfl | simp [Cond.onTables, Cond.keeps, Cond.steady])) hini)
  obtain ⟨hx, hb, hml, ho, -⟩ := S
  obtain ⟨-, ⟨cellB, hcB, hoB, hclB⟩, hPc⟩ := hp
  intro T hT X
  rcases vx_callVN X hx (C := C) (bytes := bytes) (maxL := maxL) (ret := ret) ho hl hx1 hx2 hcode hy hK (by rw [hT]; exact hcB) hoB hclB hg (hsize.trans hml.symm) (argsL := As) (rest := rest) (fun sig h => hn.trans (hlen sig h)) hstack hW (by rw [hb]; exact hdg)
    (fun vm₁ hW₁ => ⟨hf.1, hf.2, hPc (T.setVm vm₁) hT hW₁⟩) with ⟨v, vm₁, ⟨U', l2, c2, s2⟩, hW₁, X', ⟨g', mk, t, L, e1, e2, hq, h1, hL, h2, h3⟩, st⟩ | ⟨q, vm₁, ⟨U', l2, c2, s2⟩, hW₁, X', ⟨g', mk, t, L, E, ce, e1, e2, hq, hce, hcv, hcl, h1, hL, h2, h3⟩, st⟩
  · dsimp only [Pt.U, Pt.locs, Pt.cells, Pt.slots] at X' e1 e2 h1 h2 h3 st
    subst h1; subst h2; subst h3
    exact Or.inl ⟨v, (T.setVm vm₁).calling g' mk (Value.ref b :: As).toArray, t, U', L, hT, X', hL, e1, e2, hq, st⟩
  · dsimp only [Pt.U, Pt.locs, Pt.cells, Pt.slots] at X' e1 e2 h1 h2 h3 st hcl
    subst h1; subst h2; subst h3
    exact Or.inr ⟨q, (T.setVm vm₁).calling g' mk (Value.ref b :: As).toArray, t, U', L, E, ce, hT, X', hL, e1, e2, hq, hce, hcv, vx_cls hW₁ hcl, st⟩
theorem vx_runSN {y : MethodName} {bytes cc : ByteArray} {maxL nL mc ms n index : Nat} {ret : Option FieldType} {ws : List Cond} {rm : Room} {Pc : Array Value → State → Prop} {Qc : Array Value → State → Outcome → State → Prop} {XC : String → State → State → Prop} {free : Addr → Prop} {Ts : List Cond} {own host : String} {As rest : List Value} {g : JFrame}
    (S : CallFix p m c cc nL s args Ts own) (hM : vx_Met l y ws rm Pc Qc XC mc ms free) (cw : va_CN R s args own index y host bytes maxL ret ws rm mc ms n ∧ (Cond.static y).before args s = true ∧ True) (hp : PreS s H Pc As)
    (hg : g.method = m) (hn : As.length = n) (hsize : g.locals.size = nL) (hstack : g.stack = As.reverse ++ rest) (hW : 2 * g.monitorRoom + (rest.map fun v => v.category).sum ≤ 8) (hdg : decode cc g.pc = .ok (.invokestatic index, 3)) (hf : cells + mc ≤ R.cells ∧ slots + ms ≤ R.slots) :
    vx_Run p l e R s m args below meth c H locs cells slots mc ms g rest (Qc As.toArray) XC free := by
  obtain ⟨⟨⟨hrc, hrs, hfr, hlo, hws, hcw⟩, hcode, hini, hy, hlen, hl⟩, hx1, hx2⟩ := cw
  have hK : vx_Back l R p e below s args y 3 8 (PreOf R mc ms Pc) (PostOf Qc mc ms free) (vx_Post XC mc ms free) := vx_back (bytes := bytes) (maxL := maxL) (ret := ret) hM hp.1 hrc hrs hfr hlo hws hcw (fun a' U hW => word_at hW (Or.inl (by first | rfl | simp [Cond.onTables, Cond.keeps, Cond.steady])) hini)
  obtain ⟨hx, hb, hml, ho, -⟩ := S
  have hPc := hp.2
  intro T hT X
  rcases vx_callSN X hx (bytes := bytes) (maxL := maxL) (ret := ret) ho hl hx1 hini hcode hy hK hg (hsize.trans hml.symm) (argsL := As) (rest := rest) (fun sig h => hn.trans (hlen sig h)) hstack hW (by rw [hb]; exact hdg)
    (fun vm₁ hW₁ => ⟨hf.1, hf.2, hPc (T.setVm vm₁) hT hW₁⟩) with ⟨v, vm₁, ⟨U', l2, c2, s2⟩, hW₁, X', ⟨g', mk, t, L, e1, e2, hq, h1, hL, h2, h3⟩, st⟩ | ⟨q, vm₁, ⟨U', l2, c2, s2⟩, hW₁, X', ⟨g', mk, t, L, E, ce, e1, e2, hq, hce, hcv, hcl, h1, hL, h2, h3⟩, st⟩
  · dsimp only [Pt.U, Pt.locs, Pt.cells, Pt.slots] at X' e1 e2 h1 h2 h3 st
    subst h1; subst h2; subst h3
    exact Or.inl ⟨v, (T.setVm vm₁).calling g' mk As.toArray, t, U', L, hT, X', hL, e1, e2, hq, st⟩
  · dsimp only [Pt.U, Pt.locs, Pt.cells, Pt.slots] at X' e1 e2 h1 h2 h3 st hcl
    subst h1; subst h2; subst h3
    exact Or.inr ⟨q, (T.setVm vm₁).calling g' mk As.toArray, t, U', L, E, ce, hT, X', hL, e1, e2, hq, hce, hcv, vx_cls hW₁ hcl, st⟩
end
/-! ===== END ===== -/
end
section
/-! ===== BEGIN printed: names, fields, word lists, decode rows ===== -/
def RX0 : String := "ArmtowerLine$Arm"
def TX0 : u_T := fun k => match k with
  | 0 => ("ArmtowerLine$Arm", "kept", "[I", true)
  | 1 => ("ArmtowerLine$Arm", "count", "I", false)
  | 2 => ("ArmtowerLine$Arm", "urgentLeft", "I", false)
  | 3 => ("ArmtowerLine$Arm", "shown", "I", false)
  | _ => ("ArmtowerLine$Arm", "entries", "LArmtowerLine$Log;", true)
def tyX0 : Nat → FieldType := fun k => match k with
  | 0 => .array .int
  | 1 => .int
  | 2 => .int
  | 3 => .int
  | _ => .object "ArmtowerLine$Log"
abbrev wsX00 : List Cond := u_ws RX0 TX0 5
theorem nmX0 : ∀ a, a < 5 → ∀ b, b < 5 → a ≠ b → (TX0 a).2.1 ≠ (TX0 b).2.1 := by decide +kernel
theorem tyX0_ok : ∀ k, k < 5 → parseFieldDescriptor (TX0 k).2.2.1 = some (tyX0 k) := by decide +kernel
abbrev cX0_init : ByteArray := prog_2_method_1_code
def yX0_init : MethodName := ⟨RX0, "<init>", "()V"⟩
abbrev cX0_keepOne : ByteArray := prog_2_method_2_code
def yX0_keepOne : MethodName := ⟨RX0, "keepOne", "(I)Z"⟩
abbrev cX0_keepAll : ByteArray := prog_2_method_3_code
def yX0_keepAll : MethodName := ⟨RX0, "keepAll", "([IIZ)Z"⟩
abbrev cX0_removeFirst : ByteArray := prog_2_method_4_code
def yX0_removeFirst : MethodName := ⟨RX0, "removeFirst", "()I"⟩
def RX1 : String := "ArmtowerLine$Book"
def TX1 : u_T := fun k => match k with
  | 0 => ("ArmtowerLine$Book", "spots", "[I", true)
  | 1 => ("ArmtowerLine$Book", "phrases", "[I", true)
  | _ => ("ArmtowerLine$Book", "count", "I", false)
def tyX1 : Nat → FieldType := fun k => match k with
  | 0 => .array .int
  | 1 => .array .int
  | _ => .int
abbrev wsX10 : List Cond := u_ws RX1 TX1 3
theorem nmX1 : ∀ a, a < 3 → ∀ b, b < 3 → a ≠ b → (TX1 a).2.1 ≠ (TX1 b).2.1 := by decide +kernel
theorem tyX1_ok : ∀ k, k < 3 → parseFieldDescriptor (TX1 k).2.2.1 = some (tyX1 k) := by decide +kernel
abbrev cX1_init : ByteArray := prog_3_method_1_code
def yX1_init : MethodName := ⟨RX1, "<init>", "()V"⟩
abbrev cX1_indexOf : ByteArray := prog_3_method_2_code
def yX1_indexOf : MethodName := ⟨RX1, "indexOf", "(I)I"⟩
abbrev cX1_phraseAt : ByteArray := prog_3_method_3_code
def yX1_phraseAt : MethodName := ⟨RX1, "phraseAt", "(I)I"⟩
abbrev cX1_lowestSpotOf : ByteArray := prog_3_method_4_code
def yX1_lowestSpotOf : MethodName := ⟨RX1, "lowestSpotOf", "(I)I"⟩
abbrev cX1_put : ByteArray := prog_3_method_5_code
def yX1_put : MethodName := ⟨RX1, "put", "(II)Z"⟩
abbrev cX1_add : ByteArray := prog_3_method_6_code
def yX1_add : MethodName := ⟨RX1, "add", "(II)Z"⟩
abbrev cX1_remove : ByteArray := prog_3_method_7_code
def yX1_remove : MethodName := ⟨RX1, "remove", "(I)V"⟩
def RX2 : String := "ArmtowerLine$Dispatch"
def TX2 : u_T := fun k => match k with
  | 0 => ("ArmtowerLine$Dispatch", "begun", "I", true)
  | 1 => ("ArmtowerLine$Dispatch", "ended", "I", false)
  | 2 => ("ArmtowerLine$Dispatch", "urgent", "Z", true)
  | 3 => ("ArmtowerLine$Dispatch", "signs", "[I", true)
  | 4 => ("ArmtowerLine$Dispatch", "count", "I", false)
  | _ => ("ArmtowerLine$Dispatch", "below", "LArmtowerLine$Dispatch;", true)
def tyX2 : Nat → FieldType := fun k => match k with
  | 0 => .int
  | 1 => .int
  | 2 => .boolean
  | 3 => .array .int
  | 4 => .int
  | _ => .object "ArmtowerLine$Dispatch"
abbrev wsX20 : List Cond := u_ws RX2 TX2 6
theorem nmX2 : ∀ a, a < 6 → ∀ b, b < 6 → a ≠ b → (TX2 a).2.1 ≠ (TX2 b).2.1 := by decide +kernel
theorem tyX2_ok : ∀ k, k < 6 → parseFieldDescriptor (TX2 k).2.2.1 = some (tyX2 k) := by decide +kernel
abbrev cX2_init : ByteArray := prog_4_method_1_code
def yX2_init : MethodName := ⟨RX2, "<init>", "(IZLArmtowerLine$Dispatch;)V"⟩
abbrev cX2_add : ByteArray := prog_4_method_2_code
def yX2_add : MethodName := ⟨RX2, "add", "(I)V"⟩
abbrev cX2_spots : ByteArray := prog_4_method_3_code
def yX2_spots : MethodName := ⟨RX2, "spots", "()I"⟩
abbrev cX2_tell : ByteArray := prog_4_method_4_code
def yX2_tell : MethodName := ⟨RX2, "tell", "(I)I"⟩
def RX3 : String := "ArmtowerLine$Log"
def TX3 : u_T := fun k => match k with
  | 0 => ("ArmtowerLine$Log", "minutes", "[I", true)
  | 1 => ("ArmtowerLine$Log", "signs", "[I", true)
  | 2 => ("ArmtowerLine$Log", "own", "[Z", true)
  | _ => ("ArmtowerLine$Log", "count", "I", false)
def tyX3 : Nat → FieldType := fun k => match k with
  | 0 => .array .int
  | 1 => .array .int
  | 2 => .array .boolean
  | _ => .int
abbrev wsX30 : List Cond := u_ws RX3 TX3 4
theorem nmX3 : ∀ a, a < 4 → ∀ b, b < 4 → a ≠ b → (TX3 a).2.1 ≠ (TX3 b).2.1 := by decide +kernel
theorem tyX3_ok : ∀ k, k < 4 → parseFieldDescriptor (TX3 k).2.2.1 = some (tyX3 k) := by decide +kernel
abbrev cX3_init : ByteArray := prog_5_method_1_code
def yX3_init : MethodName := ⟨RX3, "<init>", "()V"⟩
abbrev cX3_enter : ByteArray := prog_5_method_2_code
def yX3_enter : MethodName := ⟨RX3, "enter", "(IIZ)V"⟩
abbrev cX3_tell : ByteArray := prog_5_method_3_code
def yX3_tell : MethodName := ⟨RX3, "tell", "(II)I"⟩
abbrev cX3_nextTaken : ByteArray := prog_5_method_4_code
def yX3_nextTaken : MethodName := ⟨RX3, "nextTaken", "(I)I"⟩
def RX4 : String := "ArmtowerLine$Spy"
def TX4 : u_T := fun k => match k with
  | 0 => ("ArmtowerLine$Spy", "tower", "I", true)
  | 1 => ("ArmtowerLine$Spy", "signs", "[I", true)
  | _ => ("ArmtowerLine$Spy", "count", "I", false)
def tyX4 : Nat → FieldType := fun k => match k with
  | 0 => .int
  | 1 => .array .int
  | _ => .int
abbrev wsX40 : List Cond := u_ws RX4 TX4 3
theorem nmX4 : ∀ a, a < 3 → ∀ b, b < 3 → a ≠ b → (TX4 a).2.1 ≠ (TX4 b).2.1 := by decide +kernel
theorem tyX4_ok : ∀ k, k < 3 → parseFieldDescriptor (TX4 k).2.2.1 = some (tyX4 k) := by decide +kernel
abbrev cX4_init : ByteArray := prog_6_method_1_code
def yX4_init : MethodName := ⟨RX4, "<init>", "(I)V"⟩
abbrev cX4_note : ByteArray := prog_6_method_2_code
def yX4_note : MethodName := ⟨RX4, "note", "(I)V"⟩
def RX5 : String := "ArmtowerLine$Stretch"
def TX5 : u_T := fun k => match k with
  | 0 => ("ArmtowerLine$Stretch", "length", "I", true)
  | 1 => ("ArmtowerLine$Stretch", "heights", "[I", true)
  | 2 => ("ArmtowerLine$Stretch", "places", "[I", true)
  | 3 => ("ArmtowerLine$Stretch", "hills", "I", false)
  | _ => ("ArmtowerLine$Stretch", "weather", "I", false)
def tyX5 : Nat → FieldType := fun k => match k with
  | 0 => .int
  | 1 => .array .int
  | 2 => .array .int
  | 3 => .int
  | _ => .int
abbrev wsX50 : List Cond := u_ws RX5 TX5 5
theorem nmX5 : ∀ a, a < 5 → ∀ b, b < 5 → a ≠ b → (TX5 a).2.1 ≠ (TX5 b).2.1 := by decide +kernel
theorem tyX5_ok : ∀ k, k < 5 → parseFieldDescriptor (TX5 k).2.2.1 = some (tyX5 k) := by decide +kernel
abbrev cX5_init : ByteArray := prog_7_method_1_code
def yX5_init : MethodName := ⟨RX5, "<init>", "(I)V"⟩
abbrev cX5_layHill : ByteArray := prog_7_method_2_code
def yX5_layHill : MethodName := ⟨RX5, "layHill", "(II)Z"⟩
abbrev cX5_isClear : ByteArray := prog_7_method_3_code
def yX5_isClear : MethodName := ⟨RX5, "isClear", "(II)Z"⟩
def RX6 : String := "ArmtowerLine$Tape"
def TX6 : u_T := fun k => match k with
  | 0 => ("ArmtowerLine$Tape", "arrived", "[LArmtowerLine$Dispatch;", true)
  | 1 => ("ArmtowerLine$Tape", "arrivals", "I", false)
  | 2 => ("ArmtowerLine$Tape", "latest", "LArmtowerLine$Dispatch;", false)
  | 3 => ("ArmtowerLine$Tape", "begunCount", "I", false)
  | _ => ("ArmtowerLine$Tape", "urgentAhead", "Z", false)
def tyX6 : Nat → FieldType := fun k => match k with
  | 0 => .array (.object "ArmtowerLine$Dispatch")
  | 1 => .int
  | 2 => .object "ArmtowerLine$Dispatch"
  | 3 => .int
  | _ => .boolean
abbrev wsX60 : List Cond := u_ws RX6 TX6 5
theorem nmX6 : ∀ a, a < 5 → ∀ b, b < 5 → a ≠ b → (TX6 a).2.1 ≠ (TX6 b).2.1 := by decide +kernel
theorem tyX6_ok : ∀ k, k < 5 → parseFieldDescriptor (TX6 k).2.2.1 = some (tyX6 k) := by decide +kernel
abbrev cX6_init : ByteArray := prog_8_method_1_code
def yX6_init : MethodName := ⟨RX6, "<init>", "()V"⟩
abbrev cX6_putOn : ByteArray := prog_8_method_2_code
def yX6_putOn : MethodName := ⟨RX6, "putOn", "(II)V"⟩
abbrev cX6_begin : ByteArray := prog_8_method_3_code
def yX6_begin : MethodName := ⟨RX6, "begin", "(IZ)V"⟩
abbrev cX6_end : ByteArray := prog_8_method_4_code
def yX6_end : MethodName := ⟨RX6, "end", "(I)V"⟩
abbrev cX6_dropAll : ByteArray := prog_8_method_5_code
def yX6_dropAll : MethodName := ⟨RX6, "dropAll", "()V"⟩
def RX7 : String := "ArmtowerLine$Tower"
def TX7 : u_T := fun k => match k with
  | 0 => ("ArmtowerLine$Tower", "height", "I", true)
  | 1 => ("ArmtowerLine$Tower", "tiredness", "I", false)
  | 2 => ("ArmtowerLine$Tower", "up", "LArmtowerLine$Arm;", true)
  | _ => ("ArmtowerLine$Tower", "down", "LArmtowerLine$Arm;", true)
def tyX7 : Nat → FieldType := fun k => match k with
  | 0 => .int
  | 1 => .int
  | 2 => .object "ArmtowerLine$Arm"
  | _ => .object "ArmtowerLine$Arm"
abbrev wsX70 : List Cond := u_ws RX7 TX7 4
theorem nmX7 : ∀ a, a < 4 → ∀ b, b < 4 → a ≠ b → (TX7 a).2.1 ≠ (TX7 b).2.1 := by decide +kernel
theorem tyX7_ok : ∀ k, k < 4 → parseFieldDescriptor (TX7 k).2.2.1 = some (tyX7 k) := by decide +kernel
abbrev cX7_init : ByteArray := prog_9_method_1_code
def yX7_init : MethodName := ⟨RX7, "<init>", "(I)V"⟩
abbrev cX7_armFor : ByteArray := prog_9_method_2_code
def yX7_armFor : MethodName := ⟨RX7, "armFor", "(Z)LArmtowerLine$Arm;"⟩
def RX8 : String := "ArmtowerLine"
def TX8 : u_T := fun k => match k with
  | 0 => ("ArmtowerLine", "towerRow", "[LArmtowerLine$Tower;", true)
  | 1 => ("ArmtowerLine", "stretchRow", "[LArmtowerLine$Stretch;", true)
  | 2 => ("ArmtowerLine", "built", "I", false)
  | 3 => ("ArmtowerLine", "begun", "Z", false)
  | 4 => ("ArmtowerLine", "now", "I", false)
  | 5 => ("ArmtowerLine", "readingSeed", "I", false)
  | 6 => ("ArmtowerLine", "books", "[LArmtowerLine$Book;", true)
  | 7 => ("ArmtowerLine", "text", "[I", true)
  | 8 => ("ArmtowerLine", "typed", "I", false)
  | 9 => ("ArmtowerLine", "dispatchRow", "[I", true)
  | 10 => ("ArmtowerLine", "upTape", "LArmtowerLine$Tape;", true)
  | 11 => ("ArmtowerLine", "downTape", "LArmtowerLine$Tape;", true)
  | 12 => ("ArmtowerLine", "spies", "[LArmtowerLine$Spy;", true)
  | _ => ("ArmtowerLine", "spying", "I", false)
def tyX8 : Nat → FieldType := fun k => match k with
  | 0 => .array (.object "ArmtowerLine$Tower")
  | 1 => .array (.object "ArmtowerLine$Stretch")
  | 2 => .int
  | 3 => .boolean
  | 4 => .int
  | 5 => .int
  | 6 => .array (.object "ArmtowerLine$Book")
  | 7 => .array .int
  | 8 => .int
  | 9 => .array .int
  | 10 => .object "ArmtowerLine$Tape"
  | 11 => .object "ArmtowerLine$Tape"
  | 12 => .array (.object "ArmtowerLine$Spy")
  | _ => .int
abbrev wsX80 : List Cond := u_ws RX8 TX8 14
theorem nmX8 : ∀ a, a < 14 → ∀ b, b < 14 → a ≠ b → (TX8 a).2.1 ≠ (TX8 b).2.1 := by decide +kernel
theorem tyX8_ok : ∀ k, k < 14 → parseFieldDescriptor (TX8 k).2.2.1 = some (tyX8 k) := by decide +kernel
abbrev cX8_init : ByteArray := prog_1_method_1_code
def yX8_init : MethodName := ⟨RX8, "<init>", "()V"⟩
abbrev cX8_tower : ByteArray := prog_1_method_2_code
def yX8_tower : MethodName := ⟨RX8, "tower", "(II)I"⟩
abbrev cX8_hill : ByteArray := prog_1_method_3_code
def yX8_hill : MethodName := ⟨RX8, "hill", "(III)I"⟩
abbrev cX8_air : ByteArray := prog_1_method_4_code
def yX8_air : MethodName := ⟨RX8, "air", "(II)I"⟩
abbrev cX8_tire : ByteArray := prog_1_method_5_code
def yX8_tire : MethodName := ⟨RX8, "tire", "(II)I"⟩
abbrev cX8_seed : ByteArray := prog_1_method_6_code
def yX8_seed : MethodName := ⟨RX8, "seed", "(I)I"⟩
abbrev cX8_write : ByteArray := prog_1_method_7_code
def yX8_write : MethodName := ⟨RX8, "write", "(IIII)I"⟩
abbrev cX8_type : ByteArray := prog_1_method_8_code
def yX8_type : MethodName := ⟨RX8, "type", "(I)I"⟩
abbrev cX8_clear : ByteArray := prog_1_method_9_code
def yX8_clear : MethodName := ⟨RX8, "clear", "()I"⟩
abbrev cX8_send : ByteArray := prog_1_method_10_code
def yX8_send : MethodName := ⟨RX8, "send", "(ZIZ)I"⟩
abbrev cX8_mark : ByteArray := prog_1_method_11_code
def yX8_mark : MethodName := ⟨RX8, "mark", "(IZZ)I"⟩
abbrev cX8_spy : ByteArray := prog_1_method_12_code
def yX8_spy : MethodName := ⟨RX8, "spy", "(I)I"⟩
abbrev cX8_pass : ByteArray := prog_1_method_13_code
def yX8_pass : MethodName := ⟨RX8, "pass", "(I)I"⟩
abbrev cX8_minute : ByteArray := prog_1_method_14_code
def yX8_minute : MethodName := ⟨RX8, "minute", "()I"⟩
abbrev cX8_towers : ByteArray := prog_1_method_15_code
def yX8_towers : MethodName := ⟨RX8, "towers", "()I"⟩
abbrev cX8_sees : ByteArray := prog_1_method_16_code
def yX8_sees : MethodName := ⟨RX8, "sees", "(I)Z"⟩
abbrev cX8_shows : ByteArray := prog_1_method_17_code
def yX8_shows : MethodName := ⟨RX8, "shows", "(IZ)I"⟩
abbrev cX8_keeps : ByteArray := prog_1_method_18_code
def yX8_keeps : MethodName := ⟨RX8, "keeps", "(IZI)I"⟩
abbrev cX8_logs : ByteArray := prog_1_method_19_code
def yX8_logs : MethodName := ⟨RX8, "logs", "(IZ)I"⟩
abbrev cX8_log : ByteArray := prog_1_method_20_code
def yX8_log : MethodName := ⟨RX8, "log", "(IZII)I"⟩
abbrev cX8_differs : ByteArray := prog_1_method_21_code
def yX8_differs : MethodName := ⟨RX8, "differs", "(IIZ)I"⟩
abbrev cX8_came : ByteArray := prog_1_method_22_code
def yX8_came : MethodName := ⟨RX8, "came", "(Z)I"⟩
abbrev cX8_told : ByteArray := prog_1_method_23_code
def yX8_told : MethodName := ⟨RX8, "told", "(ZII)I"⟩
abbrev cX8_phrase : ByteArray := prog_1_method_24_code
def yX8_phrase : MethodName := ⟨RX8, "phrase", "(ZIII)I"⟩
abbrev cX8_open : ByteArray := prog_1_method_25_code
def yX8_open : MethodName := ⟨RX8, "open", "(Z)I"⟩
abbrev cX8_seen : ByteArray := prog_1_method_26_code
def yX8_seen : MethodName := ⟨RX8, "seen", "(I)I"⟩
abbrev cX8_tries : ByteArray := prog_1_method_27_code
def yX8_tries : MethodName := ⟨RX8, "tries", "(II)I"⟩
abbrev cX8_comes : ByteArray := prog_1_method_28_code
def yX8_comes : MethodName := ⟨RX8, "comes", "(I)I"⟩
abbrev cX8_comesAnew : ByteArray := prog_1_method_29_code
def yX8_comesAnew : MethodName := ⟨RX8, "comesAnew", "(I)I"⟩
abbrev cX8_isOutside : ByteArray := prog_1_method_30_code
def yX8_isOutside : MethodName := ⟨RX8, "isOutside", "(III)Z"⟩
abbrev cX8_spotOf : ByteArray := prog_1_method_31_code
def yX8_spotOf : MethodName := ⟨RX8, "spotOf", "(II)I"⟩
abbrev cX8_towerAt : ByteArray := prog_1_method_32_code
def yX8_towerAt : MethodName := ⟨RX8, "towerAt", "(I)LArmtowerLine$Tower;"⟩
abbrev cX8_stretchAt : ByteArray := prog_1_method_33_code
def yX8_stretchAt : MethodName := ⟨RX8, "stretchAt", "(I)LArmtowerLine$Stretch;"⟩
abbrev cX8_bookAt : ByteArray := prog_1_method_34_code
def yX8_bookAt : MethodName := ⟨RX8, "bookAt", "(I)LArmtowerLine$Book;"⟩
abbrev cX8_spyAt : ByteArray := prog_1_method_35_code
def yX8_spyAt : MethodName := ⟨RX8, "spyAt", "(I)LArmtowerLine$Spy;"⟩
abbrev cX8_dispatchAt : ByteArray := prog_1_method_36_code
def yX8_dispatchAt : MethodName := ⟨RX8, "dispatchAt", "(ZI)LArmtowerLine$Dispatch;"⟩
abbrev cX8_tapeOf : ByteArray := prog_1_method_37_code
def yX8_tapeOf : MethodName := ⟨RX8, "tapeOf", "(Z)LArmtowerLine$Tape;"⟩
abbrev cX8_isEnd : ByteArray := prog_1_method_38_code
def yX8_isEnd : MethodName := ⟨RX8, "isEnd", "(IZ)Z"⟩
abbrev cX8_isDay : ByteArray := prog_1_method_39_code
def yX8_isDay : MethodName := ⟨RX8, "isDay", "()Z"⟩
abbrev cX8_isSeenAlong : ByteArray := prog_1_method_40_code
def yX8_isSeenAlong : MethodName := ⟨RX8, "isSeenAlong", "(I)Z"⟩
abbrev cX8_layOut : ByteArray := prog_1_method_41_code
def yX8_layOut : MethodName := ⟨RX8, "layOut", "(LArmtowerLine$Book;Z)I"⟩
abbrev cX8_passOne : ByteArray := prog_1_method_42_code
def yX8_passOne : MethodName := ⟨RX8, "passOne", "()V"⟩
abbrev cX8_look : ByteArray := prog_1_method_43_code
def yX8_look : MethodName := ⟨RX8, "look", "(IZ)V"⟩
abbrev cX8_signAsRead : ByteArray := prog_1_method_44_code
def yX8_signAsRead : MethodName := ⟨RX8, "signAsRead", "(II)I"⟩
abbrev cX8_showNext : ByteArray := prog_1_method_45_code
def yX8_showNext : MethodName := ⟨RX8, "showNext", "(IZ)V"⟩
abbrev cX8_tellSpies : ByteArray := prog_1_method_46_code
def yX8_tellSpies : MethodName := ⟨RX8, "tellSpies", "(II)V"⟩
abbrev cX8_firstUnlike : ByteArray := prog_1_method_47_code
def yX8_firstUnlike : MethodName := ⟨RX8, "firstUnlike", "(LArmtowerLine$Log;LArmtowerLine$Log;)I"⟩
abbrev cX8_minutesOfTrial : ByteArray := prog_1_method_48_code
def yX8_minutesOfTrial : MethodName := ⟨RX8, "minutesOfTrial", "(II)I"⟩
abbrev cX8_passTrialMinute : ByteArray := prog_1_method_49_code
def yX8_passTrialMinute : MethodName := ⟨RX8, "passTrialMinute", "([I[ZI)V"⟩
def RX9 : String := "ArmtowerLineModel"
def TX9 : u_T := fun k => match k with
  | 0 => ("ArmtowerLineModel", "thrown", "I", false)
  | 1 => ("ArmtowerLineModel", "now", "I", false)
  | 2 => ("ArmtowerLineModel", "hasBegun", "Z", false)
  | 3 => ("ArmtowerLineModel", "towerMany", "I", false)
  | 4 => ("ArmtowerLineModel", "heights", "[I", true)
  | 5 => ("ArmtowerLineModel", "fars", "[I", true)
  | 6 => ("ArmtowerLineModel", "tired", "[I", true)
  | 7 => ("ArmtowerLineModel", "airs", "[I", true)
  | 8 => ("ArmtowerLineModel", "hillMany", "[I", true)
  | 9 => ("ArmtowerLineModel", "hillHeight", "[I", true)
  | 10 => ("ArmtowerLineModel", "hillPlace", "[I", true)
  | 11 => ("ArmtowerLineModel", "seedNow", "I", false)
  | 12 => ("ArmtowerLineModel", "keptMany", "[I", true)
  | 13 => ("ArmtowerLineModel", "urgentMany", "[I", true)
  | 14 => ("ArmtowerLineModel", "kept", "[I", true)
  | 15 => ("ArmtowerLineModel", "shown", "[I", true)
  | 16 => ("ArmtowerLineModel", "isTaken", "[Z", true)
  | 17 => ("ArmtowerLineModel", "logMany", "[I", true)
  | 18 => ("ArmtowerLineModel", "logMinute", "[I", true)
  | 19 => ("ArmtowerLineModel", "logSign", "[I", true)
  | 20 => ("ArmtowerLineModel", "logOwn", "[Z", true)
  | 21 => ("ArmtowerLineModel", "spotMany", "[I", true)
  | 22 => ("ArmtowerLineModel", "spots", "[I", true)
  | 23 => ("ArmtowerLineModel", "phrases", "[I", true)
  | 24 => ("ArmtowerLineModel", "textMany", "I", false)
  | 25 => ("ArmtowerLineModel", "text", "[I", true)
  | 26 => ("ArmtowerLineModel", "drafts", "[I", true)
  | 27 => ("ArmtowerLineModel", "wasUrgent", "[Z", true)
  | 28 => ("ArmtowerLineModel", "openMany", "[I", true)
  | 29 => ("ArmtowerLineModel", "openBegin", "[I", true)
  | 30 => ("ArmtowerLineModel", "openUrgent", "[Z", true)
  | 31 => ("ArmtowerLineModel", "openCount", "[I", true)
  | 32 => ("ArmtowerLineModel", "openSigns", "[I", true)
  | 33 => ("ArmtowerLineModel", "cameMany", "[I", true)
  | 34 => ("ArmtowerLineModel", "cameBegin", "[I", true)
  | 35 => ("ArmtowerLineModel", "cameEnd", "[I", true)
  | 36 => ("ArmtowerLineModel", "cameUrgent", "[Z", true)
  | 37 => ("ArmtowerLineModel", "cameCount", "[I", true)
  | 38 => ("ArmtowerLineModel", "cameSigns", "[I", true)
  | 39 => ("ArmtowerLineModel", "spyMany", "I", false)
  | 40 => ("ArmtowerLineModel", "spyAt", "[I", true)
  | 41 => ("ArmtowerLineModel", "seenMany", "[I", true)
  | _ => ("ArmtowerLineModel", "seenSigns", "[I", true)
def tyX9 : Nat → FieldType := fun k => match k with
  | 0 => .int
  | 1 => .int
  | 2 => .boolean
  | 3 => .int
  | 4 => .array .int
  | 5 => .array .int
  | 6 => .array .int
  | 7 => .array .int
  | 8 => .array .int
  | 9 => .array .int
  | 10 => .array .int
  | 11 => .int
  | 12 => .array .int
  | 13 => .array .int
  | 14 => .array .int
  | 15 => .array .int
  | 16 => .array .boolean
  | 17 => .array .int
  | 18 => .array .int
  | 19 => .array .int
  | 20 => .array .boolean
  | 21 => .array .int
  | 22 => .array .int
  | 23 => .array .int
  | 24 => .int
  | 25 => .array .int
  | 26 => .array .int
  | 27 => .array .boolean
  | 28 => .array .int
  | 29 => .array .int
  | 30 => .array .boolean
  | 31 => .array .int
  | 32 => .array .int
  | 33 => .array .int
  | 34 => .array .int
  | 35 => .array .int
  | 36 => .array .boolean
  | 37 => .array .int
  | 38 => .array .int
  | 39 => .int
  | 40 => .array .int
  | 41 => .array .int
  | _ => .array .int
abbrev wsX90 : List Cond := u_ws RX9 TX9 43
theorem nmX9 : ∀ a, a < 43 → ∀ b, b < 43 → a ≠ b → (TX9 a).2.1 ≠ (TX9 b).2.1 := by decide +kernel
theorem tyX9_ok : ∀ k, k < 43 → parseFieldDescriptor (TX9 k).2.2.1 = some (tyX9 k) := by decide +kernel
abbrev cX9_init : ByteArray := prog_11_method_1_code
def yX9_init : MethodName := ⟨RX9, "<init>", "()V"⟩
abbrev cX9_thrown : ByteArray := prog_11_method_2_code
def yX9_thrown : MethodName := ⟨RX9, "thrown", "()I"⟩
abbrev cX9_in : ByteArray := prog_11_method_3_code
def yX9_in : MethodName := ⟨RX9, "in", "(III)Z"⟩
abbrev cX9_isTower : ByteArray := prog_11_method_4_code
def yX9_isTower : MethodName := ⟨RX9, "isTower", "(I)Z"⟩
abbrev cX9_isStretch : ByteArray := prog_11_method_5_code
def yX9_isStretch : MethodName := ⟨RX9, "isStretch", "(I)Z"⟩
abbrev cX9_isBook : ByteArray := prog_11_method_6_code
def yX9_isBook : MethodName := ⟨RX9, "isBook", "(I)Z"⟩
abbrev cX9_at : ByteArray := prog_11_method_7_code
def yX9_at : MethodName := ⟨RX9, "at", "(IZ)I"⟩
abbrev cX9_isEnd : ByteArray := prog_11_method_8_code
def yX9_isEnd : MethodName := ⟨RX9, "isEnd", "(IZ)Z"⟩
abbrev cX9_tower : ByteArray := prog_11_method_9_code
def yX9_tower : MethodName := ⟨RX9, "tower", "(II)I"⟩
abbrev cX9_hill : ByteArray := prog_11_method_10_code
def yX9_hill : MethodName := ⟨RX9, "hill", "(III)I"⟩
abbrev cX9_air : ByteArray := prog_11_method_11_code
def yX9_air : MethodName := ⟨RX9, "air", "(II)I"⟩
abbrev cX9_tire : ByteArray := prog_11_method_12_code
def yX9_tire : MethodName := ⟨RX9, "tire", "(II)I"⟩
abbrev cX9_seed : ByteArray := prog_11_method_13_code
def yX9_seed : MethodName := ⟨RX9, "seed", "(I)I"⟩
abbrev cX9_isDay : ByteArray := prog_11_method_14_code
def yX9_isDay : MethodName := ⟨RX9, "isDay", "()Z"⟩
abbrev cX9_down : ByteArray := prog_11_method_15_code
def yX9_down : MethodName := ⟨RX9, "down", "(II)I"⟩
abbrev cX9_seesAlong : ByteArray := prog_11_method_16_code
def yX9_seesAlong : MethodName := ⟨RX9, "seesAlong", "(I)Z"⟩
abbrev cX9_spotOf : ByteArray := prog_11_method_17_code
def yX9_spotOf : MethodName := ⟨RX9, "spotOf", "(II)I"⟩
abbrev cX9_write : ByteArray := prog_11_method_18_code
def yX9_write : MethodName := ⟨RX9, "write", "(IIII)I"⟩
abbrev cX9_type : ByteArray := prog_11_method_19_code
def yX9_type : MethodName := ⟨RX9, "type", "(I)I"⟩
abbrev cX9_clear : ByteArray := prog_11_method_20_code
def yX9_clear : MethodName := ⟨RX9, "clear", "()I"⟩
abbrev cX9_lowestSpot : ByteArray := prog_11_method_21_code
def yX9_lowestSpot : MethodName := ⟨RX9, "lowestSpot", "(II)I"⟩
abbrev cX9_makesSigns : ByteArray := prog_11_method_22_code
def yX9_makesSigns : MethodName := ⟨RX9, "makesSigns", "(IZ)I"⟩
abbrev cX9_keepsAt : ByteArray := prog_11_method_23_code
def yX9_keepsAt : MethodName := ⟨RX9, "keepsAt", "(III)V"⟩
abbrev cX9_send : ByteArray := prog_11_method_24_code
def yX9_send : MethodName := ⟨RX9, "send", "(ZIZ)I"⟩
abbrev cX9_writes : ByteArray := prog_11_method_25_code
def yX9_writes : MethodName := ⟨RX9, "writes", "(IIZ)V"⟩
abbrev cX9_mark : ByteArray := prog_11_method_26_code
def yX9_mark : MethodName := ⟨RX9, "mark", "(IZZ)I"⟩
abbrev cX9_spy : ByteArray := prog_11_method_27_code
def yX9_spy : MethodName := ⟨RX9, "spy", "(I)I"⟩
abbrev cX9_opens : ByteArray := prog_11_method_28_code
def yX9_opens : MethodName := ⟨RX9, "opens", "(IZ)V"⟩
abbrev cX9_ends : ByteArray := prog_11_method_29_code
def yX9_ends : MethodName := ⟨RX9, "ends", "(I)V"⟩
abbrev cX9_tapes : ByteArray := prog_11_method_30_code
def yX9_tapes : MethodName := ⟨RX9, "tapes", "(II)V"⟩
abbrev cX9_reads : ByteArray := prog_11_method_31_code
def yX9_reads : MethodName := ⟨RX9, "reads", "(II)I"⟩
abbrev cX9_looks : ByteArray := prog_11_method_32_code
def yX9_looks : MethodName := ⟨RX9, "looks", "(IZ)V"⟩
abbrev cX9_spies : ByteArray := prog_11_method_33_code
def yX9_spies : MethodName := ⟨RX9, "spies", "(II)V"⟩
abbrev cX9_turnsTo : ByteArray := prog_11_method_34_code
def yX9_turnsTo : MethodName := ⟨RX9, "turnsTo", "(IZI)V"⟩
abbrev cX9_pass : ByteArray := prog_11_method_35_code
def yX9_pass : MethodName := ⟨RX9, "pass", "(I)I"⟩
abbrev cX9_minute : ByteArray := prog_11_method_36_code
def yX9_minute : MethodName := ⟨RX9, "minute", "()I"⟩
abbrev cX9_towers : ByteArray := prog_11_method_37_code
def yX9_towers : MethodName := ⟨RX9, "towers", "()I"⟩
abbrev cX9_sees : ByteArray := prog_11_method_38_code
def yX9_sees : MethodName := ⟨RX9, "sees", "(I)Z"⟩
abbrev cX9_shows : ByteArray := prog_11_method_39_code
def yX9_shows : MethodName := ⟨RX9, "shows", "(IZ)I"⟩
abbrev cX9_keeps : ByteArray := prog_11_method_40_code
def yX9_keeps : MethodName := ⟨RX9, "keeps", "(IZI)I"⟩
abbrev cX9_logs : ByteArray := prog_11_method_41_code
def yX9_logs : MethodName := ⟨RX9, "logs", "(IZ)I"⟩
abbrev cX9_log : ByteArray := prog_11_method_42_code
def yX9_log : MethodName := ⟨RX9, "log", "(IZII)I"⟩
abbrev cX9_nextRead : ByteArray := prog_11_method_43_code
def yX9_nextRead : MethodName := ⟨RX9, "nextRead", "(II)I"⟩
abbrev cX9_differs : ByteArray := prog_11_method_44_code
def yX9_differs : MethodName := ⟨RX9, "differs", "(IIZ)I"⟩
abbrev cX9_came : ByteArray := prog_11_method_45_code
def yX9_came : MethodName := ⟨RX9, "came", "(Z)I"⟩
abbrev cX9_told : ByteArray := prog_11_method_46_code
def yX9_told : MethodName := ⟨RX9, "told", "(ZII)I"⟩
abbrev cX9_phrase : ByteArray := prog_11_method_47_code
def yX9_phrase : MethodName := ⟨RX9, "phrase", "(ZIII)I"⟩
abbrev cX9_open : ByteArray := prog_11_method_48_code
def yX9_open : MethodName := ⟨RX9, "open", "(Z)I"⟩
abbrev cX9_seen : ByteArray := prog_11_method_49_code
def yX9_seen : MethodName := ⟨RX9, "seen", "(I)I"⟩
abbrev cX9_tries : ByteArray := prog_11_method_50_code
def yX9_tries : MethodName := ⟨RX9, "tries", "(II)I"⟩
abbrev cX9_comes : ByteArray := prog_11_method_51_code
def yX9_comes : MethodName := ⟨RX9, "comes", "(I)I"⟩
abbrev cX9_comesAnew : ByteArray := prog_11_method_52_code
def yX9_comesAnew : MethodName := ⟨RX9, "comesAnew", "(I)I"⟩
def RJ9 : String := "java/lang/Math"
def TJ9 : u_T := fun k => match k with
  | _ => ("", "", "", false)
def tyJ9 : Nat → FieldType := fun k => match k with
  | _ => .int
abbrev wsJ90 : List Cond := u_ws RJ9 TJ9 0
theorem nmJ9 : ∀ a, a < 0 → ∀ b, b < 0 → a ≠ b → (TJ9 a).2.1 ≠ (TJ9 b).2.1 := by decide +kernel
theorem tyJ9_ok : ∀ k, k < 0 → parseFieldDescriptor (TJ9 k).2.2.1 = some (tyJ9 k) := by decide +kernel
abbrev cJ9_min_7cf53 : ByteArray := prog_16_method_69_code
def yJ9_min_7cf53 : MethodName := ⟨RJ9, "min", "(II)I"⟩
def RJ0 : String := "java/lang/String"
def TJ0 : u_T := fun k => match k with
  | _ => ("", "", "", false)
def tyJ0 : Nat → FieldType := fun k => match k with
  | _ => .int
abbrev wsJ00 : List Cond := u_ws RJ0 TJ0 0
theorem nmJ0 : ∀ a, a < 0 → ∀ b, b < 0 → a ≠ b → (TJ0 a).2.1 ≠ (TJ0 b).2.1 := by decide +kernel
theorem tyJ0_ok : ∀ k, k < 0 → parseFieldDescriptor (TJ0 k).2.2.1 = some (tyJ0 k) := by decide +kernel
def RJ10 : String := "java/lang/System"
def TJ10 : u_T := fun k => match k with
  | _ => ("", "", "", false)
def tyJ10 : Nat → FieldType := fun k => match k with
  | _ => .int
abbrev wsJ100 : List Cond := u_ws RJ10 TJ10 0
theorem nmJ10 : ∀ a, a < 0 → ∀ b, b < 0 → a ≠ b → (TJ10 a).2.1 ≠ (TJ10 b).2.1 := by decide +kernel
theorem tyJ10_ok : ∀ k, k < 0 → parseFieldDescriptor (TJ10 k).2.2.1 = some (tyJ10 k) := by decide +kernel
def RL : String := "ArmtowerLineLaw"
abbrev cL_tower : ByteArray := method_3_code
def yL_tower : MethodName := ⟨RL, "tower", "(LArmtowerLine;II[J)I"⟩
abbrev cL_hill : ByteArray := method_4_code
def yL_hill : MethodName := ⟨RL, "hill", "(LArmtowerLine;III[J)I"⟩
abbrev cL_air : ByteArray := method_5_code
def yL_air : MethodName := ⟨RL, "air", "(LArmtowerLine;II[J)I"⟩
abbrev cL_tire : ByteArray := method_6_code
def yL_tire : MethodName := ⟨RL, "tire", "(LArmtowerLine;II[J)I"⟩
abbrev cL_seed : ByteArray := method_7_code
def yL_seed : MethodName := ⟨RL, "seed", "(LArmtowerLine;I[J)I"⟩
abbrev cL_write : ByteArray := method_8_code
def yL_write : MethodName := ⟨RL, "write", "(LArmtowerLine;IIII[J)I"⟩
abbrev cL_type : ByteArray := method_9_code
def yL_type : MethodName := ⟨RL, "type", "(LArmtowerLine;I[J)I"⟩
abbrev cL_send : ByteArray := method_10_code
def yL_send : MethodName := ⟨RL, "send", "(LArmtowerLine;ZIZ[J)I"⟩
abbrev cL_mark : ByteArray := method_11_code
def yL_mark : MethodName := ⟨RL, "mark", "(LArmtowerLine;IZZ[J)I"⟩
abbrev cL_spy : ByteArray := method_12_code
def yL_spy : MethodName := ⟨RL, "spy", "(LArmtowerLine;I[J)I"⟩
abbrev cL_pass : ByteArray := method_13_code
def yL_pass : MethodName := ⟨RL, "pass", "(LArmtowerLine;I[J)I"⟩
abbrev cL_sees : ByteArray := method_14_code
def yL_sees : MethodName := ⟨RL, "sees", "(LArmtowerLine;I[J)I"⟩
abbrev cL_shows : ByteArray := method_15_code
def yL_shows : MethodName := ⟨RL, "shows", "(LArmtowerLine;IZ[J)I"⟩
abbrev cL_keeps : ByteArray := method_16_code
def yL_keeps : MethodName := ⟨RL, "keeps", "(LArmtowerLine;IZI[J)I"⟩
abbrev cL_logs : ByteArray := method_17_code
def yL_logs : MethodName := ⟨RL, "logs", "(LArmtowerLine;IZ[J)I"⟩
abbrev cL_log : ByteArray := method_18_code
def yL_log : MethodName := ⟨RL, "log", "(LArmtowerLine;IZII[J)I"⟩
abbrev cL_differs : ByteArray := method_19_code
def yL_differs : MethodName := ⟨RL, "differs", "(LArmtowerLine;IIZ[J)I"⟩
abbrev cL_told : ByteArray := method_20_code
def yL_told : MethodName := ⟨RL, "told", "(LArmtowerLine;ZII[J)I"⟩
abbrev cL_phrase : ByteArray := method_21_code
def yL_phrase : MethodName := ⟨RL, "phrase", "(LArmtowerLine;ZIII[J)I"⟩
abbrev cL_seen : ByteArray := method_22_code
def yL_seen : MethodName := ⟨RL, "seen", "(LArmtowerLine;I[J)I"⟩
abbrev cL_tries : ByteArray := method_23_code
def yL_tries : MethodName := ⟨RL, "tries", "(LArmtowerLine;II[J)I"⟩
abbrev cL_comes : ByteArray := method_24_code
def yL_comes : MethodName := ⟨RL, "comes", "(LArmtowerLine;I[J)I"⟩
abbrev cL_comesAnew : ByteArray := method_25_code
def yL_comesAnew : MethodName := ⟨RL, "comesAnew", "(LArmtowerLine;I[J)I"⟩
abbrev cL_law : ByteArray := code
def yL_law : MethodName := ⟨RL, "law", "([I)Z"⟩
def wsX3_init : List Cond := .code yX3_init cX3_init 1 none :: ([.methodLink RX3 3 objectInit, .instanceMethod objectInit, .code objectInit ⟨#[0xb1]⟩ 1 none, .arrayClass .int, .fieldLink RX3 9 "ArmtowerLine$Log" "minutes" "[I", .fieldLink RX3 15 "ArmtowerLine$Log" "signs" "[I", .arrayClass .boolean, .fieldLink RX3 18 "ArmtowerLine$Log" "own" "[Z"] ++ wsX30)
abbrev vwCl : List vw_C := [(RX0, TX0, 5), (RX1, TX1, 3), (RX2, TX2, 6), (RX3, TX3, 4), (RX4, TX4, 3), (RX5, TX5, 5), (RX6, TX6, 5), (RX7, TX7, 4), (RX8, TX8, 14), (RX9, TX9, 43)]
end
section
/-! ABSTRACT MACHINE over the kit's W: ints are mathematical integers, objects have names (kind, number), the heap is a function of names -/
abbrev am_Nm : Type := Nat × Nat
abbrev am_AV : Type := Int ⊕ Int ⊕ Option am_Nm
abbrev am_I (x : Int) : am_AV := Sum.inl x
abbrev am_J (x : Int) : am_AV := Sum.inr (Sum.inl x)
abbrev am_R (n : am_Nm) : am_AV := Sum.inr (Sum.inr (some n))
abbrev am_N : am_AV := Sum.inr (Sum.inr none)
/-- an array (kind, length, elements) or an object (class, fields) -/
abbrev am_AC : Type := (Nat × Nat × (Nat → am_AV)) ⊕ (Nat × List am_AV)
abbrev am_A (kd len : Nat) (f : Nat → am_AV) : am_AC := Sum.inl (kd, len, f)
abbrev am_O (ci : Nat) (fs : List am_AV) : am_AC := Sum.inr (ci, fs)
abbrev am_AH : Type := am_Nm → Option am_AC
/-- the script's name -/
abbrev am_scr : am_Nm := (99, 0)
def am_up (h : am_AH) (n : am_Nm) (c : am_AC) : am_AH := fun x => if x = n then some c else h x
def am_uf (f : Nat → am_AV) (i : Nat) (v : am_AV) : Nat → am_AV := fun j => if j = i then v else f j
/-- launch, heap at the law's start, class ids, field slots, array class ids, script (address, length, ints) -/
abbrev am_G : Type := Launch × Heap × (Nat → ClassId) × (Nat → Nat → Nat) × (Nat → ClassId) × (Nat × Nat × (Nat → Int32))
/-- ..., entry naming -/
abbrev am_X : Type := Program × Env × Room × State × MethodId × Array Value × List Frame × Method × Code × (am_Nm → Option Nat)
/-- bytes, number of locals, own class, return type, a constructor?, handlers -/
abbrev am_Y : Type := ByteArray × Nat × String × Option FieldType × Bool × List (Nat × Nat × Nat × Nat)
def am_V (ι : am_Nm → Option Nat) (v : am_AV) (w : Value) : Prop := match v with
  | .inl x => w = .int (Int32.ofInt x)
  | .inr (.inl x) => w = .long (Int64.ofInt x)
  | .inr (.inr none) => w = .null
  | .inr (.inr (some n)) => ∃ a, ι n = some a ∧ w = .ref a
def am_T (ι : am_Nm → Option Nat) : List am_AV → List Value → Prop
  | [], [] => True
  | v :: vs, w :: ws => am_V ι v w ∧ am_T ι vs ws
  | _, _ => False
def am_le (ι κ : am_Nm → Option Nat) : Prop := ∀ n a, ι n = some a → κ n = some a
theorem am_le_rf {ι : am_Nm → Option Nat} : am_le ι ι := fun _ _ h => h
theorem am_le_tr {ι κ μ : am_Nm → Option Nat} (h : am_le ι κ) (g : am_le κ μ) : am_le ι μ := fun n a q => g n a (h n a q)
theorem am_V_le {ι κ : am_Nm → Option Nat} (h : am_le ι κ) {v : am_AV} {w : Value} (q : am_V ι v w) : am_V κ v w := by
  match v, q with
  | .inl x, q => exact q
  | .inr (.inl x), q => exact q
  | .inr (.inr none), q => exact q
  | .inr (.inr (some n)), q => obtain ⟨a, h1, h2⟩ := q; exact ⟨a, h n a h1, h2⟩
theorem am_T_le {ι κ : am_Nm → Option Nat} (h : am_le ι κ) : ∀ {vs : List am_AV} {ws : List Value}, am_T ι vs ws → am_T κ vs ws
  | [], [], _ => trivial
  | _ :: _, _ :: _, ⟨a, b⟩ => ⟨am_V_le h a, am_T_le h b⟩
  | [], _ :: _, q => q.elim
  | _ :: _, [], q => q.elim
/-- the array kinds: 0 int, 1 boolean, 2 long, 3.. references of a class -/
def am_ty : Nat → FieldType
  | 0 => .int
  | 1 => .boolean
  | 2 => .long
  | 3 => .object RX7
  | 4 => .object RX5
  | 5 => .object RX1
  | 6 => .object RX4
  | _ => .object RX2
def am_C (G : am_G) (ι : am_Nm → Option Nat) (c : am_AC) (a : Nat) (H : Heap) : Prop := match c with
  | .inl (kd, len, f) => ∃ w : Nat → Value, H[a]? = some (arrV (G.2.2.2.2.1 kd) len w) ∧ ∀ j, j < len → am_V ι (f j) (w j)
  | .inr (ci, fs) => ∃ (r : vw_C) (V : Nat → Value), vwCl[ci]? = some r ∧ t_OB a (G.2.2.1 ci) r.2.2 (G.2.2.2.1 ci) H V ∧ ∀ (j : Nat) (v : am_AV), fs[j]? = some v → am_V ι v (V j)
theorem am_C_le {G : am_G} {ι κ : am_Nm → Option Nat} (h : am_le ι κ) {c : am_AC} {a : Nat} {H H1 : Heap} (hk : H1[a]? = H[a]?) (q : am_C G ι c a H) : am_C G κ c a H1 := by
  match c, q with
  | .inl (kd, len, f), ⟨w, h1, h2⟩ => exact ⟨w, hk.trans h1, fun j hj => am_V_le h (h2 j hj)⟩
  | .inr (ci, fs), ⟨r, V, h1, h2, h3⟩ => exact ⟨r, V, h1, h2.kept hk, fun j v hj => am_V_le h (h3 j v hj)⟩
theorem am_C_lt {G : am_G} {ι : am_Nm → Option Nat} {c : am_AC} {a : Nat} {H : Heap} (q : am_C G ι c a H) : a < H.size := by
  match c, q with
  | .inl (kd, len, f), ⟨w, h1, _⟩ => exact (Array.getElem?_eq_some_iff.mp h1).1
  | .inr (ci, fs), ⟨r, V, _, ⟨ce9, h1, _⟩, _⟩ => exact (Array.getElem?_eq_some_iff.mp h1).1
/-- the real heap holds the abstract one, by the naming -/
def am_H (G : am_G) (ι : am_Nm → Option Nat) (h : am_AH) (H : Heap) : Prop :=
  (∀ n c, h n = some c → ∃ a, ι n = some a ∧ am_C G ι c a H) ∧
  (∀ n a, ι n = some a → (n = am_scr ∧ a = G.2.2.2.2.2.1) ∨ (n ≠ am_scr ∧ G.2.1.size ≤ a ∧ a < H.size ∧ h n ≠ none)) ∧
  (∀ n n' a, ι n = some a → ι n' = some a → n = n') ∧ h am_scr = none ∧ ι am_scr = some G.2.2.2.2.2.1
/-- what was there at the law's start is there -/
def am_old (G : am_G) (H : Heap) : Prop := G.2.1.size ≤ H.size ∧ ∀ q, q < G.2.1.size → H[q]? = G.2.1[q]?
theorem am_H_set {G : am_G} {ι : am_Nm → Option Nat} {h : am_AH} {H H1 : Heap} {n : am_Nm} {c c1 : am_AC} {a : Nat} (q : am_H G ι h H) (hn : h n = some c) (ha : ι n = some a) (hz : H1.size = H.size) (ho : ∀ b, b ≠ a → H1[b]? = H[b]?) (hc : am_C G ι c1 a H1) : am_H G ι (am_up h n c1) H1 := by
  obtain ⟨q1, q2, q3, q4, q5⟩ := q
  have hs : am_scr ≠ n := fun e => by rw [e] at q4; rw [q4] at hn; cases hn
  refine ⟨fun x cx hx => ?_, fun x ax hx => ?_, q3, ?_, q5⟩
  · by_cases e : x = n
    · subst e
      simp only [am_up, if_true] at hx
      cases hx
      exact ⟨a, ha, hc⟩
    · simp only [am_up, if_neg e] at hx
      obtain ⟨b, hb, hcb⟩ := q1 x cx hx
      exact ⟨b, hb, am_C_le am_le_rf (ho b fun z => e (q3 x n a (z ▸ hb) ha)) hcb⟩
  · rcases q2 x ax hx with z | ⟨z1, z2, z3, z4⟩
    · exact Or.inl z
    · refine Or.inr ⟨z1, z2, hz ▸ z3, ?_⟩
      by_cases e : x = n
      · simp [am_up, e]
      · simp only [am_up, if_neg e]; exact z4
  · simp only [am_up, if_neg hs]; exact q4
theorem am_H_new {G : am_G} {ι : am_Nm → Option Nat} {h : am_AH} {H H1 : Heap} {n : am_Nm} {c1 : am_AC} (q : am_H G ι h H) (hold : am_old G H) (hsb : G.2.2.2.2.2.1 < G.2.1.size) (hn : h n = none) (hs : n ≠ am_scr) (hz : H1.size = H.size + 1) (ho : ∀ b, b < H.size → H1[b]? = H[b]?) (hc : ∀ κ : am_Nm → Option Nat, am_le ι κ → κ n = some H.size → am_C G κ c1 H.size H1) :
    ∃ κ : am_Nm → Option Nat, am_le ι κ ∧ κ n = some H.size ∧ am_H G κ (am_up h n c1) H1 := by
  obtain ⟨q1, q2, q3, q4, q5⟩ := q
  have hin : ι n = none := by
    cases e : ι n with
    | none => rfl
    | some a =>
      rcases q2 n a e with ⟨z, -⟩ | ⟨-, -, -, z⟩
      · exact absurd z hs
      · exact absurd hn z
  have hle : am_le ι (fun x => if x = n then some H.size else ι x) := fun x a hx => by
    by_cases e : x = n
    · subst e; rw [hin] at hx; cases hx
    · simp only [if_neg e]; exact hx
  have hlt : ∀ x a, ι x = some a → a < H.size := fun x a hx => by
    rcases q2 x a hx with ⟨-, z⟩ | ⟨-, -, z, -⟩
    · rw [z]; exact Nat.lt_of_lt_of_le hsb hold.1
    · exact z
  refine ⟨fun x => if x = n then some H.size else ι x, hle, by simp, fun x cx hx => ?_, fun x ax hx => ?_, fun x y a hx hy => ?_, ?_, ?_⟩
  · by_cases e : x = n
    · subst e
      simp only [am_up, if_true] at hx
      cases hx
      exact ⟨H.size, by simp, hc _ hle (by simp)⟩
    · simp only [am_up, if_neg e] at hx
      obtain ⟨b, hb, hcb⟩ := q1 x cx hx
      exact ⟨b, hle x b hb, am_C_le hle (ho b (am_C_lt hcb)) hcb⟩
  · by_cases e : x = n
    · subst e
      simp only [if_true] at hx
      cases hx
      exact Or.inr ⟨hs, hold.1, by omega, by simp [am_up]⟩
    · simp only [if_neg e] at hx
      rcases q2 x ax hx with z | ⟨z1, z2, z3, z4⟩
      · exact Or.inl z
      · exact Or.inr ⟨z1, z2, by omega, by simp only [am_up, if_neg e]; exact z4⟩
  · by_cases e : x = n
    · by_cases e' : y = n
      · rw [e, e']
      · simp only [if_pos e, Option.some.injEq] at hx
        simp only [if_neg e'] at hy
        exact absurd (hlt y a hy) (by omega)
    · by_cases e' : y = n
      · simp only [if_neg e] at hx
        simp only [if_pos e', Option.some.injEq] at hy
        exact absurd (hlt x a hx) (by omega)
      · simp only [if_neg e] at hx
        simp only [if_neg e'] at hy
        exact q3 x y a hx hy
  · simp only [am_up, if_neg (Ne.symm hs)]; exact q4
  · simp only [if_neg (Ne.symm hs)]; exact q5
/-- all good words, of all methods -/
def am_uw : List Cond := lw_tbl.filter goodWord
theorem am_uw_good : ∀ w ∈ am_uw, goodWord w = true := fun _ h => (List.mem_filter.mp h).2
theorem am_uw_in : ∀ w ∈ am_uw, w ∈ lw_tbl := fun _ h => (List.mem_filter.mp h).1
/-- words that move with the machine, though not good ones -/
def am_mv : Cond → Bool
  | .fieldLinkNest .. => true
  | .methodLinkNest .. => true
  | .castable .. => true
  | .declares .. => true
  | _ => false
def am_tys (G : am_G) : List (ClassId × FieldType) := (List.range 8).map fun k => (G.2.2.2.2.1 k, am_ty k)
theorem am_tys_at (G : am_G) (k : Nat) (hk : k < 8) : (am_tys G)[k]? = some (G.2.2.2.2.1 k, am_ty k) := by
  simp [am_tys, hk]
def am_free (G : am_G) : Nat → Prop := fun q => G.2.1.size ≤ q
def am_ex : Nat → String
  | 0 => "java/lang/IndexOutOfBoundsException"
  | 1 => "java/lang/IllegalArgumentException"
  | _ => "java/lang/IllegalStateException"
/-- what holds of the machine at every method's entry -/
def am_K (G : am_G) (U : State) : Prop :=
  va_K (G.2.2.1, G.2.2.2.1) vwCl (am_tys G) U ∧
  (vx_Zq Bundle.tN "UNASSIGNED_STACK" Bundle.steD (am_free G) U G.2.1 ∧ vx_Zq Bundle.tN "SUPPRESSED_SENTINEL" Bundle.listD (am_free G) U G.2.1) ∧
  (∀ w ∈ lw_tbl, am_mv w = true → va_Nw w U) ∧ (∀ (k : Nat) (tx : String), Cond.stringRef RX8 k tx ∈ lw_tbl → ∃ a, vk_R RX8 k tx a U) ∧
  (∀ C : String, Cond.arrayOver (.object C) ∈ lw_tbl → va_AO C U) ∧ (∀ i j : Nat, i < 3 → j < 3 → i ≠ j → va_Nc (am_ex i) (am_ex j) U) ∧
  va_X G.2.2.2.2.2.1 G.2.2.2.2.2.2.1 G.2.2.2.2.2.2.2 U G.2.1 ∧ G.2.2.2.2.2.1 < G.2.1.size ∧ G.1.stackTraces = false
theorem am_X_moved {b L : Nat} {xs : Nat → Int32} {u U : State} {H : Heap} (hvm : u.vm.Alike U.vm) (h : va_X b L xs u H) : va_X b L xs U H := by
  obtain ⟨scr, h1, h2, h3⟩ := h
  exact ⟨scr, h1, State.isArrayOf_alike hvm h2, h3⟩
theorem am_K_warm {G : am_G} {s U : State} (hW : s.WarmedH U.vm) (h : am_K G s) : am_K G U := by
  obtain ⟨h1, ⟨h2, h3⟩, h4, h5, h6, h7, h8, h9⟩ := h
  refine ⟨va_K.moved hW.alike h1, ⟨vx_Zq.moved hW.alike h2, vx_Zq.moved hW.alike h3⟩, fun w hw hm => ?_, fun k tx hk => ?_, fun C hC => (h6 C hC).moved hW.alike, fun i j hi hj hn => (h7 i j hi hj hn).moved hW.alike, am_X_moved hW.alike h8, h9⟩
  · have hz := h4 w hw hm
    cases w <;> first | (exact va_Nw.warmF hW hz) | (exact va_Nw.warmM hW hz) | (exact va_Nw.warmC hW hz) | (exact va_Nw.warmD hW hz) | (exact absurd hm (by simp [am_mv]))
  · obtain ⟨a, ha⟩ := h5 k tx hk
    exact ⟨a, vk_R.warm hW ha⟩
theorem am_K_same {G : am_G} {s U : State} (hv : s.vm = U.vm) (h : am_K G s) : am_K G U := by
  obtain ⟨h1, ⟨h2, h3⟩, h4, h5, h6, h7, h8, h9⟩ := h
  have hA : s.vm.Alike U.vm := hv ▸ Vm.Alike.refl s.vm
  refine ⟨va_K.moved hA h1, ⟨vx_Zq.moved hA h2, vx_Zq.moved hA h3⟩, fun w hw hm => ?_, fun k tx hk => ?_, fun C hC => (h6 C hC).moved hA, fun i j hi hj hn => (h7 i j hi hj hn).moved hA, am_X_moved hA h8, h9⟩
  · have hz := h4 w hw hm
    cases w <;> first | (exact va_Nw.same rfl hv hz) | (exact absurd hm (by simp [am_mv]))
  · obtain ⟨a, ha⟩ := h5 k tx hk
    exact ⟨a, vk_R.same hv.symm ha⟩
def am_rm (d mc ms : Nat) : Room := { frames := d, cells := mc, slots := ms, locals := 36 * d }
/-- what holds through a method's body: the machine, the code, the words, the entry's heap -/
def am_ok (G : am_G) (X : am_X) (Y : am_Y) (d mc ms : Nat) : Prop := match X with
  | (p, e, R, s, m, args, below, meth, c, ι0) => p.tables.exec = Jvm.exec ∧ c.code = Y.1 ∧ c.maxLocals = Y.2.1 ∧ s.vm.findClass Y.2.2.1 = some m.cls ∧ (∀ w ∈ am_uw, w.before args s = true) ∧ meth.locks = false ∧ meth.sig.returnType = Y.2.2.2.1 ∧ (Y.2.2.2.2.1 = true → meth.name = "<init>") ∧ c.exceptionTable.toList = tableOf Y.2.2.2.2.2 ∧ R.frames = d ∧ R.locals ≥ 36 * d ∧ R.cells = mc ∧ R.slots = ms ∧ am_old G s.heap ∧ am_K G s
def am_Rel (G : am_G) (X : am_X) (ι : am_Nm → Option Nat) (h : am_AH) (H : Heap) (lc : List Loc) : Prop := match X with
  | (_, _, _, s, _, _, _, _, _, ι0) => am_H G ι h H ∧ am_old G H ∧ s.heap.size ≤ H.size ∧ (∀ z ∈ lc, am_free G z.base) ∧ am_le ι0 ι
/-- locals: what is listed is held, and no long is among them -/
def am_L (nL : Nat) (ι : am_Nm → Option Nat) (ls : List (Option am_AV)) (lr : Array Slot) : Prop :=
  lr.size = nL ∧ lv_wf lr ∧ ls.length = nL ∧ ∀ (i : Nat) (v : am_AV), ls[i]? = some (some v) → ∃ w, lr[i]? = some (.val w) ∧ am_V ι v w ∧ w.category = 1
theorem am_L_le {nL : Nat} {ι κ : am_Nm → Option Nat} (h : am_le ι κ) {ls : List (Option am_AV)} {lr : Array Slot} (q : am_L nL ι ls lr) : am_L nL κ ls lr :=
  ⟨q.1, q.2.1, q.2.2.1, fun i v hi => by obtain ⟨w, h1, h2, h3⟩ := q.2.2.2 i v hi; exact ⟨w, h1, am_V_le h h2, h3⟩⟩
/-- the walk of a body, from a place on -/
def am_W (G : am_G) (X : am_X) (Y : am_Y) (d mc ms : Nat) (Q : State → Prop) (pc : Nat) (ls : List (Option am_AV)) (st : List am_AV) (h : am_AH) (k n : Nat) : Prop := match X with
  | (p, e, R, s, m, args, below, meth, c, ι0) => am_ok G (p, e, R, s, m, args, below, meth, c, ι0) Y d mc ms → ∀ (ι : am_Nm → Option Nat) (H : Heap) (lr : Array Slot) (sr : List Value) (lc : List Loc), am_Rel G (p, e, R, s, m, args, below, meth, c, ι0) ι h H lc → am_L Y.2.1 ι ls lr → am_T ι st sr → W p G.1 e R s m args below meth c H lc k n Q (F0 m pc lr sr)
/-- decoding: an instruction, its length, the next place; a branch with its target -/
def am_d (cc : ByteArray) (pc : Nat) (i : Instr) (len q : Nat) : Prop := decode cc pc = .ok (i, len) ∧ q = pc + len
def am_b (cc : ByteArray) (pc : Nat) (i : Instr) (off : Int) (q t : Nat) : Prop := decode cc pc = .ok (i, 3) ∧ q = pc + 3 ∧ (pc : Int) + off = (t : Int)
def am_r (a : Int) : Prop := -2147483648 ≤ a ∧ a < 2147483648
theorem am_toInt {a : Int} (h : am_r a) : (Int32.ofInt a).toInt = a := Int32.toInt_ofInt_of_le (by have := h.1; omega) (by have := h.2; omega)
theorem am_lt {a b : Int} (ha : am_r a) (hb : am_r b) : Int32.ofInt a < Int32.ofInt b ↔ a < b := by rw [Int32.lt_iff_toInt_lt, am_toInt ha, am_toInt hb]
theorem am_lef {a b : Int} (ha : am_r a) (hb : am_r b) : Int32.ofInt a ≤ Int32.ofInt b ↔ a ≤ b := by rw [Int32.le_iff_toInt_le, am_toInt ha, am_toInt hb]
theorem am_eq {a b : Int} (ha : am_r a) (hb : am_r b) : Int32.ofInt a = Int32.ofInt b ↔ a = b := by rw [← Int32.toInt_inj, am_toInt ha, am_toInt hb]
theorem am_r0 : am_r 0 := ⟨by decide, by decide⟩
theorem am_z : (0 : Int32) = Int32.ofInt 0 := by decide
theorem am_idx {i : Int} (h0 : 0 ≤ i) {n : Nat} (h1 : i < n) (hn : n < 2147483648) : ¬ (Int32.ofInt i < 0 ∨ n ≤ (Int32.ofInt i).toNatClampNeg) ∧ (Int32.ofInt i).toNatClampNeg = i.toNat := by
  have hr : am_r i := ⟨by omega, by omega⟩
  have ht := am_toInt hr
  have hc : (Int32.ofInt i).toNatClampNeg = i.toNat := by show (Int32.ofInt i).toInt.toNat = i.toNat; rw [ht]
  refine ⟨?_, hc⟩
  rw [am_z, am_lt hr am_r0, hc]
  omega
end
section
section AmPure
variable {G : am_G} {X : am_X} {Y : am_Y} {d mc ms : Nat} {Q : State → Prop} {pc q t : Nat} {ls : List (Option am_AV)} {st : List am_AV} {h : am_AH} {k n : Nat}
theorem am_T_1 {ι : am_Nm → Option Nat} {v : am_AV} {vs : List am_AV} {sr : List Value} (ht : am_T ι (v :: vs) sr) : ∃ w ws, sr = w :: ws ∧ am_V ι v w ∧ am_T ι vs ws := by
  match sr, ht with
  | w :: ws, ⟨a, b⟩ => exact ⟨w, ws, rfl, a, b⟩
theorem am_heq {h' : am_AH} (e : h = h') (kk : am_W G X Y d mc ms Q pc ls st h' k n) : am_W G X Y d mc ms Q pc ls st h k n := e ▸ kk
theorem am_steq {st' : List am_AV} (e : st = st') (kk : am_W G X Y d mc ms Q pc ls st' h k n) : am_W G X Y d mc ms Q pc ls st h k n := e ▸ kk
theorem am_lseq {ls' : List (Option am_AV)} (e : ls = ls') (kk : am_W G X Y d mc ms Q pc ls' st h k n) : am_W G X Y d mc ms Q pc ls st h k n := e ▸ kk
/-- fewer locals known -/
theorem am_lless {ls' : List (Option am_AV)} (hz : ls'.length = ls.length) (e : ∀ (i : Nat) (v : am_AV), ls'[i]? = some (some v) → ls[i]? = some (some v)) (kk : am_W G X Y d mc ms Q pc ls' st h k n) : am_W G X Y d mc ms Q pc ls st h k n := by
  obtain ⟨p, e9, R, s, m, args, below, meth, c, ι0⟩ := X
  intro ok ι H lr sr lc hr hl ht
  exact kk ok ι H lr sr lc hr ⟨hl.1, hl.2.1, hz.trans hl.2.2.1, fun i v hi => hl.2.2.2 i v (e i v hi)⟩ ht
theorem am_widen {k' n' : Nat} (h1 : k ≤ k') (h2 : n ≤ n') (kk : am_W G X Y d mc ms Q pc ls st h k' n') : am_W G X Y d mc ms Q pc ls st h k n := by
  obtain ⟨p, e, R, s, m, args, below, meth, c, ι0⟩ := X
  intro ok ι H lr sr lc hr hl ht
  exact W.widen h1 h2 (kk ok ι H lr sr lc hr hl ht)
theorem am_iconst {x : Int} (hd : am_d Y.1 pc (.iconst x) 1 q) (kk : am_W G X Y d mc ms Q q ls (am_I x :: st) h k n) : am_W G X Y d mc ms Q pc ls st h k n := by
  obtain ⟨p, e, R, s, m, args, below, meth, c, ι0⟩ := X
  obtain ⟨hd, rfl⟩ := hd
  intro ok ι H lr sr lc hr hl ht
  exact lv_iconst ok.1 ok.2.1 hd rfl (kk ok ι H lr _ lc hr hl ⟨rfl, ht⟩)
theorem am_bipush {x : Int} (hd : am_d Y.1 pc (.bipush x) 2 q) (hx : (Int8.ofInt x).toInt32 = Int32.ofInt x) (kk : am_W G X Y d mc ms Q q ls (am_I x :: st) h k n) : am_W G X Y d mc ms Q pc ls st h k n := by
  obtain ⟨p, e, R, s, m, args, below, meth, c, ι0⟩ := X
  obtain ⟨hd, rfl⟩ := hd
  intro ok ι H lr sr lc hr hl ht
  exact lv_bipush ok.1 ok.2.1 hd hx (kk ok ι H lr _ lc hr hl ⟨rfl, ht⟩)
theorem am_sipush {x : Int} (hd : am_d Y.1 pc (.sipush x) 3 q) (hx : (Int16.ofInt x).toInt32 = Int32.ofInt x) (kk : am_W G X Y d mc ms Q q ls (am_I x :: st) h k n) : am_W G X Y d mc ms Q pc ls st h k n := by
  obtain ⟨p, e, R, s, m, args, below, meth, c, ι0⟩ := X
  obtain ⟨hd, rfl⟩ := hd
  intro ok ι H lr sr lc hr hl ht
  exact lv_sipush ok.1 ok.2.1 hd hx (kk ok ι H lr _ lc hr hl ⟨rfl, ht⟩)
theorem am_lconst {x : Fin 2} (hd : am_d Y.1 pc (.lconst x) 1 q) (kk : am_W G X Y d mc ms Q q ls (am_J (x : Nat) :: st) h k n) : am_W G X Y d mc ms Q pc ls st h k n := by
  obtain ⟨p, e, R, s, m, args, below, meth, c, ι0⟩ := X
  obtain ⟨hd, rfl⟩ := hd
  intro ok ι H lr sr lc hr hl ht
  exact lv_lconst ok.1 ok.2.1 hd rfl (kk ok ι H lr _ lc hr hl ⟨by simp [am_V, Int64.ofInt_eq_ofNat], ht⟩)
theorem am_null (hd : am_d Y.1 pc .aconst_null 1 q) (kk : am_W G X Y d mc ms Q q ls (am_N :: st) h k n) : am_W G X Y d mc ms Q pc ls st h k n := by
  obtain ⟨p, e, R, s, m, args, below, meth, c, ι0⟩ := X
  obtain ⟨hd, rfl⟩ := hd
  intro ok ι H lr sr lc hr hl ht
  exact lv_null ok.1 ok.2.1 hd (kk ok ι H lr _ lc hr hl ⟨rfl, ht⟩)
theorem am_ldc {idx : Nat} {x : Int32} (hd : am_d Y.1 pc (.ldc idx) 2 q) (hc : Cond.constant Y.2.2.1 idx x ∈ am_uw) (kk : am_W G X Y d mc ms Q q ls (am_I x.toInt :: st) h k n) : am_W G X Y d mc ms Q pc ls st h k n := by
  obtain ⟨p, e, R, s, m, args, below, meth, c, ι0⟩ := X
  obtain ⟨hd, rfl⟩ := hd
  intro ok ι H lr sr lc hr hl ht
  have hown := ok.2.2.2.1
  have hts := ok.2.2.2.2.1
  exact lv_ldc ok.1 ok.2.1 hown (hts _ hc) hd (kk ok ι H lr _ lc hr hl ⟨by simp [am_V], ht⟩)
theorem am_iload_n {i : Fin 4} {x : Int} (hd : am_d Y.1 pc (.iload_n i) 1 q) (hx : ls[(i : Nat)]? = some (some (am_I x))) (kk : am_W G X Y d mc ms Q q ls (am_I x :: st) h k n) : am_W G X Y d mc ms Q pc ls st h k n := by
  obtain ⟨p, e, R, s, m, args, below, meth, c, ι0⟩ := X
  obtain ⟨hd, rfl⟩ := hd
  intro ok ι H lr sr lc hr hl ht
  obtain ⟨w, h1, h2, h3⟩ := hl.2.2.2 _ _ hx
  cases h2
  exact lv_iload_n ok.1 ok.2.1 hd rfl h1 (kk ok ι H lr _ lc hr hl ⟨rfl, ht⟩)
theorem am_iload {i : Nat} {x : Int} (hd : am_d Y.1 pc (.iload i) 2 q) (hx : ls[i]? = some (some (am_I x))) (kk : am_W G X Y d mc ms Q q ls (am_I x :: st) h k n) : am_W G X Y d mc ms Q pc ls st h k n := by
  obtain ⟨p, e, R, s, m, args, below, meth, c, ι0⟩ := X
  obtain ⟨hd, rfl⟩ := hd
  intro ok ι H lr sr lc hr hl ht
  obtain ⟨w, h1, h2, h3⟩ := hl.2.2.2 _ _ hx
  cases h2
  exact lv_iload ok.1 ok.2.1 hd h1 (kk ok ι H lr _ lc hr hl ⟨rfl, ht⟩)
theorem am_aload_n {i : Fin 4} {x : Option am_Nm} (hd : am_d Y.1 pc (.aload_n i) 1 q) (hx : ls[(i : Nat)]? = some (some (Sum.inr (Sum.inr x)))) (kk : am_W G X Y d mc ms Q q ls (Sum.inr (Sum.inr x) :: st) h k n) : am_W G X Y d mc ms Q pc ls st h k n := by
  obtain ⟨p, e, R, s, m, args, below, meth, c, ι0⟩ := X
  obtain ⟨hd, rfl⟩ := hd
  intro ok ι H lr sr lc hr hl ht
  obtain ⟨w, h1, h2, h3⟩ := hl.2.2.2 _ _ hx
  cases x with
  | none =>
    cases h2
    exact lv_aload_nN ok.1 ok.2.1 hd rfl h1 (kk ok ι H lr _ lc hr hl ⟨rfl, ht⟩)
  | some y =>
    obtain ⟨a, h4, h5⟩ := h2
    subst h5
    exact lv_aload_n ok.1 ok.2.1 hd rfl h1 (kk ok ι H lr _ lc hr hl ⟨⟨a, h4, rfl⟩, ht⟩)
theorem am_aload {i : Nat} {x : Option am_Nm} (hd : am_d Y.1 pc (.aload i) 2 q) (hx : ls[i]? = some (some (Sum.inr (Sum.inr x)))) (kk : am_W G X Y d mc ms Q q ls (Sum.inr (Sum.inr x) :: st) h k n) : am_W G X Y d mc ms Q pc ls st h k n := by
  obtain ⟨p, e, R, s, m, args, below, meth, c, ι0⟩ := X
  obtain ⟨hd, rfl⟩ := hd
  intro ok ι H lr sr lc hr hl ht
  obtain ⟨w, h1, h2, h3⟩ := hl.2.2.2 _ _ hx
  cases x with
  | none =>
    cases h2
    exact lv_aloadN ok.1 ok.2.1 hd h1 (kk ok ι H lr _ lc hr hl ⟨rfl, ht⟩)
  | some y =>
    obtain ⟨a, h4, h5⟩ := h2
    subst h5
    exact lv_aload ok.1 ok.2.1 hd h1 (kk ok ι H lr _ lc hr hl ⟨⟨a, h4, rfl⟩, ht⟩)
/-- all listed values of one slot -/
def am_lv (lr : Array Slot) : List (Nat × Value) := (List.range lr.size).filterMap fun i => match lr[i]? with
  | some (Slot.val w) => if w.category = 1 then some (i, w) else none
  | _ => none
theorem am_lv_in {lr : Array Slot} {i : Nat} {w : Value} (h1 : lr[i]? = some (.val w)) (h2 : w.category = 1) : (i, w) ∈ am_lv lr := by
  have hi : i < lr.size := (Array.getElem?_eq_some_iff.mp h1).1
  refine List.mem_filterMap.mpr ⟨i, List.mem_range.mpr hi, ?_⟩
  simp only [h1, h2, if_true]
theorem am_lv_has {nL : Nat} {ι : am_Nm → Option Nat} {lr : Array Slot} (hl : am_L nL ι ls lr) : lv_has lr nL (am_lv lr) := by
  refine ⟨hl.1, hl.2.1, fun x hx => ?_⟩
  obtain ⟨i, -, hi⟩ := List.mem_filterMap.mp hx
  split at hi
  · rename_i w hw
    split at hi
    · cases hi; exact hw
    · cases hi
  · cases hi
theorem am_L_set {nL : Nat} {ι : am_Nm → Option Nat} {lr lr' : Array Slot} (hl : am_L nL ι ls lr) {i : Nat} {v : am_AV} {w : Value} (hv : am_V ι v w) (hc : w.category = 1) (hi : i < nL) (h2 : lv_has lr' nL ((i, w) :: (am_lv lr).filter (fun q => !(q.1 == i) && !(q.1 + 1 == i && q.2.category == 2)))) : am_L nL ι (ls.set i (some v)) lr' := by
  refine ⟨h2.1, h2.2.1, by rw [List.length_set]; exact hl.2.2.1, fun j u hu => ?_⟩
  by_cases e : j = i
  · subst e
    rw [List.getElem?_set_self (by rw [hl.2.2.1]; exact hi)] at hu
    cases hu
    exact ⟨w, h2.2.2 (j, w) List.mem_cons_self, hv, hc⟩
  · rw [List.getElem?_set_ne (Ne.symm e)] at hu
    obtain ⟨w', h3, h4, h5⟩ := hl.2.2.2 j u hu
    refine ⟨w', h2.2.2 (j, w') (List.mem_cons_of_mem _ (List.mem_filter.mpr ⟨am_lv_in h3 h5, ?_⟩)), h4, h5⟩
    simp [e, h5]
theorem am_istore_n {i : Fin 4} {x : Int} (hd : am_d Y.1 pc (.istore_n i) 1 q) (hi : (i : Nat) < Y.2.1) (kk : am_W G X Y d mc ms Q q (ls.set i (some (am_I x))) st h k n) : am_W G X Y d mc ms Q pc ls (am_I x :: st) h k n := by
  obtain ⟨p, e, R, s, m, args, below, meth, c, ι0⟩ := X
  obtain ⟨hd, rfl⟩ := hd
  intro ok ι H lr sr lc hr hl ht
  obtain ⟨w, sr, rfl, h1, ht1⟩ := am_T_1 ht
  cases h1
  exact lv_istore_n ok.1 ok.2.1 hd rfl (am_lv_has hl) hi rfl fun lr' hl' => kk ok ι H lr' sr lc hr (am_L_set hl rfl rfl hi hl') ht1
theorem am_istore {i : Nat} {x : Int} (hd : am_d Y.1 pc (.istore i) 2 q) (hi : i < Y.2.1) (kk : am_W G X Y d mc ms Q q (ls.set i (some (am_I x))) st h k n) : am_W G X Y d mc ms Q pc ls (am_I x :: st) h k n := by
  obtain ⟨p, e, R, s, m, args, below, meth, c, ι0⟩ := X
  obtain ⟨hd, rfl⟩ := hd
  intro ok ι H lr sr lc hr hl ht
  obtain ⟨w, sr, rfl, h1, ht1⟩ := am_T_1 ht
  cases h1
  exact lv_istore ok.1 ok.2.1 hd (am_lv_has hl) hi rfl fun lr' hl' => kk ok ι H lr' sr lc hr (am_L_set hl rfl rfl hi hl') ht1
theorem am_astore_n {i : Fin 4} {x : Option am_Nm} (hd : am_d Y.1 pc (.astore_n i) 1 q) (hi : (i : Nat) < Y.2.1) (kk : am_W G X Y d mc ms Q q (ls.set i (some (Sum.inr (Sum.inr x)))) st h k n) : am_W G X Y d mc ms Q pc ls (Sum.inr (Sum.inr x) :: st) h k n := by
  obtain ⟨p, e, R, s, m, args, below, meth, c, ι0⟩ := X
  obtain ⟨hd, rfl⟩ := hd
  intro ok ι H lr sr lc hr hl ht
  obtain ⟨w, sr, rfl, h1, ht1⟩ := am_T_1 ht
  cases x with
  | none =>
    cases h1
    exact lv_astore_nN ok.1 ok.2.1 hd rfl (am_lv_has hl) hi rfl fun lr' hl' => kk ok ι H lr' sr lc hr (am_L_set hl rfl rfl hi hl') ht1
  | some y =>
    obtain ⟨a, h4, h5⟩ := h1
    subst h5
    exact lv_astore_n ok.1 ok.2.1 hd rfl (am_lv_has hl) hi rfl fun lr' hl' => kk ok ι H lr' sr lc hr (am_L_set hl ⟨a, h4, rfl⟩ rfl hi hl') ht1
theorem am_astore {i : Nat} {x : Option am_Nm} (hd : am_d Y.1 pc (.astore i) 2 q) (hi : i < Y.2.1) (kk : am_W G X Y d mc ms Q q (ls.set i (some (Sum.inr (Sum.inr x)))) st h k n) : am_W G X Y d mc ms Q pc ls (Sum.inr (Sum.inr x) :: st) h k n := by
  obtain ⟨p, e, R, s, m, args, below, meth, c, ι0⟩ := X
  obtain ⟨hd, rfl⟩ := hd
  intro ok ι H lr sr lc hr hl ht
  obtain ⟨w, sr, rfl, h1, ht1⟩ := am_T_1 ht
  cases x with
  | none =>
    cases h1
    exact lv_astoreN ok.1 ok.2.1 hd (am_lv_has hl) hi rfl fun lr' hl' => kk ok ι H lr' sr lc hr (am_L_set hl rfl rfl hi hl') ht1
  | some y =>
    obtain ⟨a, h4, h5⟩ := h1
    subst h5
    exact lv_astore ok.1 ok.2.1 hd (am_lv_has hl) hi rfl fun lr' hl' => kk ok ι H lr' sr lc hr (am_L_set hl ⟨a, h4, rfl⟩ rfl hi hl') ht1
theorem am_iinc {i : Nat} {z x : Int} (hd : am_d Y.1 pc (.iinc i z) 3 q) (hx : ls[i]? = some (some (am_I x))) (hi : i < Y.2.1) (kk : am_W G X Y d mc ms Q q (ls.set i (some (am_I (x + z)))) st h k n) : am_W G X Y d mc ms Q pc ls st h k n := by
  obtain ⟨p, e, R, s, m, args, below, meth, c, ι0⟩ := X
  obtain ⟨hd, rfl⟩ := hd
  intro ok ι H lr sr lc hr hl ht
  obtain ⟨w, h1, h2, h3⟩ := hl.2.2.2 _ _ hx
  cases h2
  obtain ⟨j, hj⟩ := List.getElem?_of_mem (am_lv_in h1 h3)
  exact lv_iinc ok.1 ok.2.1 hd (am_lv_has hl) hj (by rw [← Int32.ofInt_add]) hi rfl fun lr' hl' => kk ok ι H lr' sr lc hr (am_L_set hl rfl rfl hi hl') ht
theorem am_dup {v : am_AV} (hv : v.isLeft ∨ ∃ x, v = Sum.inr (Sum.inr x)) (hd : am_d Y.1 pc .dup 1 q) (kk : am_W G X Y d mc ms Q q ls (v :: v :: st) h k n) : am_W G X Y d mc ms Q pc ls (v :: st) h k n := by
  obtain ⟨p, e, R, s, m, args, below, meth, c, ι0⟩ := X
  obtain ⟨hd, rfl⟩ := hd
  intro ok ι H lr sr lc hr hl ht
  obtain ⟨w, sr, rfl, h1, ht1⟩ := am_T_1 ht
  have hc : w.category = 1 := by
    match v, hv, h1 with
    | .inl x, _, h1 => cases h1; rfl
    | .inr (.inr none), _, h1 => cases h1; rfl
    | .inr (.inr (some y)), _, h1 => obtain ⟨a, -, rfl⟩ := h1; rfl
    | .inr (.inl x), hv, _ => exact absurd hv (by simp)
  exact lv_dup ok.1 ok.2.1 hd hc (kk ok ι H lr _ lc hr hl ⟨h1, h1, ht1⟩)
theorem am_pop {v : am_AV} (hv : v.isLeft ∨ ∃ x, v = Sum.inr (Sum.inr x)) (hd : am_d Y.1 pc .pop 1 q) (kk : am_W G X Y d mc ms Q q ls st h k n) : am_W G X Y d mc ms Q pc ls (v :: st) h k n := by
  obtain ⟨p, e, R, s, m, args, below, meth, c, ι0⟩ := X
  obtain ⟨hd, rfl⟩ := hd
  intro ok ι H lr sr lc hr hl ht
  obtain ⟨w, sr, rfl, h1, ht1⟩ := am_T_1 ht
  have hc : w.category = 1 := by
    match v, hv, h1 with
    | .inl x, _, h1 => cases h1; rfl
    | .inr (.inr none), _, h1 => cases h1; rfl
    | .inr (.inr (some y)), _, h1 => obtain ⟨a, -, rfl⟩ := h1; rfl
    | .inr (.inl x), hv, _ => exact absurd hv (by simp)
  exact lv_pop ok.1 ok.2.1 hd hc (kk ok ι H lr _ lc hr hl ht1)
theorem am_dup2 {x : Int} {y : am_Nm} (hd : am_d Y.1 pc .dup2 1 q) (kk : am_W G X Y d mc ms Q q ls (am_I x :: am_R y :: am_I x :: am_R y :: st) h k n) : am_W G X Y d mc ms Q pc ls (am_I x :: am_R y :: st) h k n := by
  obtain ⟨p, e, R, s, m, args, below, meth, c, ι0⟩ := X
  obtain ⟨hd, rfl⟩ := hd
  intro ok ι H lr sr lc hr hl ht
  obtain ⟨w, sr, rfl, h1, ht1⟩ := am_T_1 ht
  obtain ⟨u, sr, rfl, h2, ht2⟩ := am_T_1 ht1
  obtain ⟨a, h3, rfl⟩ := id h2
  cases h1
  exact lv_dup2_11 ok.1 ok.2.1 hd rfl rfl (kk ok ι H lr _ lc hr hl ⟨rfl, h2, rfl, h2, ht2⟩)
theorem am_goto {o : Int} (hd : am_b Y.1 pc (.goto o) o q t) (kk : am_W G X Y d mc ms Q t ls st h k n) : am_W G X Y d mc ms Q pc ls st h k n := by
  obtain ⟨p, e, R, s, m, args, below, meth, c, ι0⟩ := X
  obtain ⟨hd, rfl, ht⟩ := hd
  intro ok ι H lr sr lc hr hl hs
  exact lv_goto ok.1 ok.2.1 hd ht (kk ok ι H lr _ lc hr hl hs)
theorem am_iadd {a b : Int} (hd : am_d Y.1 pc .iadd 1 q) (kk : am_W G X Y d mc ms Q q ls (am_I (a + b) :: st) h k n) : am_W G X Y d mc ms Q pc ls (am_I b :: am_I a :: st) h k n := by
  obtain ⟨p, e, R, s, m, args, below, meth, c, ι0⟩ := X
  obtain ⟨hd, rfl⟩ := hd
  intro ok ι H lr sr lc hr hl ht
  obtain ⟨w, sr, rfl, h1, ht1⟩ := am_T_1 ht
  obtain ⟨u, sr, rfl, h2, ht2⟩ := am_T_1 ht1
  cases h1; cases h2
  exact lv_iadd ok.1 ok.2.1 hd (kk ok ι H lr _ lc hr hl ⟨by show Value.int _ = Value.int _; rw [Int32.ofInt_add], ht2⟩)
theorem am_isub {a b : Int} (hd : am_d Y.1 pc .isub 1 q) (kk : am_W G X Y d mc ms Q q ls (am_I (a - b) :: st) h k n) : am_W G X Y d mc ms Q pc ls (am_I b :: am_I a :: st) h k n := by
  obtain ⟨p, e, R, s, m, args, below, meth, c, ι0⟩ := X
  obtain ⟨hd, rfl⟩ := hd
  intro ok ι H lr sr lc hr hl ht
  obtain ⟨w, sr, rfl, h1, ht1⟩ := am_T_1 ht
  obtain ⟨u, sr, rfl, h2, ht2⟩ := am_T_1 ht1
  cases h1; cases h2
  exact lv_isub ok.1 ok.2.1 hd (kk ok ι H lr _ lc hr hl ⟨by show Value.int _ = Value.int _; rw [Int32.ofInt_sub], ht2⟩)
theorem am_imul {a b : Int} (hd : am_d Y.1 pc .imul 1 q) (kk : am_W G X Y d mc ms Q q ls (am_I (a * b) :: st) h k n) : am_W G X Y d mc ms Q pc ls (am_I b :: am_I a :: st) h k n := by
  obtain ⟨p, e, R, s, m, args, below, meth, c, ι0⟩ := X
  obtain ⟨hd, rfl⟩ := hd
  intro ok ι H lr sr lc hr hl ht
  obtain ⟨w, sr, rfl, h1, ht1⟩ := am_T_1 ht
  obtain ⟨u, sr, rfl, h2, ht2⟩ := am_T_1 ht1
  cases h1; cases h2
  exact lv_imul ok.1 ok.2.1 hd (kk ok ι H lr _ lc hr hl ⟨by show Value.int _ = Value.int _; rw [Int32.ofInt_mul], ht2⟩)
theorem am_ineg {a : Int} (hd : am_d Y.1 pc .ineg 1 q) (kk : am_W G X Y d mc ms Q q ls (am_I (-a) :: st) h k n) : am_W G X Y d mc ms Q pc ls (am_I a :: st) h k n := by
  obtain ⟨p, e, R, s, m, args, below, meth, c, ι0⟩ := X
  obtain ⟨hd, rfl⟩ := hd
  intro ok ι H lr sr lc hr hl ht
  obtain ⟨w, sr, rfl, h1, ht1⟩ := am_T_1 ht
  cases h1
  exact lv_ineg ok.1 ok.2.1 hd (kk ok ι H lr _ lc hr hl ⟨by show Value.int _ = Value.int _; rw [Int32.ofInt_neg], ht1⟩)
theorem am_div_eq {a b : Int} (ha : am_r a) (h0 : 0 ≤ a) (hb : am_r b) (h1 : 0 < b) : Int32.ofInt a / Int32.ofInt b = Int32.ofInt (a / b) := by
  rw [← Int32.toInt_inj, Int32.toInt_div_of_ne_right _ _ (fun e => by
    have e2 := congrArg Int32.toInt e
    rw [am_toInt hb] at e2
    have : (-1 : Int32).toInt = -1 := by decide
    omega), am_toInt ha, am_toInt hb, Int.tdiv_eq_ediv_of_nonneg h0]
  have : a / b ≤ a := Int.ediv_le_self _ h0
  have : 0 ≤ a / b := Int.ediv_nonneg h0 (by omega)
  exact (am_toInt ⟨by omega, by have := ha.2; omega⟩).symm
theorem am_idiv {a b : Int} (ha : am_r a) (h0 : 0 ≤ a) (hb : am_r b) (h1 : 0 < b) (hd : am_d Y.1 pc .idiv 1 q) (kk : am_W G X Y d mc ms Q q ls (am_I (a / b) :: st) h k n) : am_W G X Y d mc ms Q pc ls (am_I b :: am_I a :: st) h k n := by
  obtain ⟨p, e, R, s, m, args, below, meth, c, ι0⟩ := X
  obtain ⟨hd, rfl⟩ := hd
  intro ok ι H lr sr lc hr hl ht
  obtain ⟨w, sr, rfl, q1, ht1⟩ := am_T_1 ht
  obtain ⟨u, sr, rfl, q2, ht2⟩ := am_T_1 ht1
  cases q1; cases q2
  refine lv_idiv ok.1 ok.2.1 hd (fun z => ?_) (kk ok ι H lr _ lc hr hl ⟨by show Value.int _ = Value.int _; rw [am_div_eq ha h0 hb h1], ht2⟩)
  rw [am_z, am_eq hb am_r0] at z
  omega
theorem am_irem {a b : Int} (ha : am_r a) (h0 : 0 ≤ a) (hb : am_r b) (h1 : 0 < b) (hd : am_d Y.1 pc .irem 1 q) (kk : am_W G X Y d mc ms Q q ls (am_I (a % b) :: st) h k n) : am_W G X Y d mc ms Q pc ls (am_I b :: am_I a :: st) h k n := by
  obtain ⟨p, e, R, s, m, args, below, meth, c, ι0⟩ := X
  obtain ⟨hd, rfl⟩ := hd
  intro ok ι H lr sr lc hr hl ht
  obtain ⟨w, sr, rfl, q1, ht1⟩ := am_T_1 ht
  obtain ⟨u, sr, rfl, q2, ht2⟩ := am_T_1 ht1
  cases q1; cases q2
  refine lv_irem ok.1 ok.2.1 hd (fun z => ?_) (kk ok ι H lr _ lc hr hl ⟨?_, ht2⟩)
  · rw [am_z, am_eq hb am_r0] at z
    omega
  · show Value.int _ = Value.int _
    rw [am_div_eq ha h0 hb h1, ← Int32.ofInt_mul, ← Int32.ofInt_sub]
    congr 2
    have := Int.emod_add_mul_ediv a b
    rw [Int.mul_comm] at this
    omega
theorem am_i2l {a : Int} (ha : am_r a) (hd : am_d Y.1 pc .i2l 1 q) (kk : am_W G X Y d mc ms Q q ls (am_J a :: st) h k n) : am_W G X Y d mc ms Q pc ls (am_I a :: st) h k n := by
  obtain ⟨p, e, R, s, m, args, below, meth, c, ι0⟩ := X
  obtain ⟨hd, rfl⟩ := hd
  intro ok ι H lr sr lc hr hl ht
  obtain ⟨w, sr, rfl, q1, ht1⟩ := am_T_1 ht
  cases q1
  refine lv_i2l ok.1 ok.2.1 hd ?_ (kk ok ι H lr _ lc hr hl ⟨rfl, ht1⟩)
  exact Int32.toInt64_ofInt (by have := ha.1; show (-2147483648 : Int) ≤ a; exact this) (by have := ha.2; show a ≤ (2147483647 : Int); omega)
section AmIf
variable {a b o : Int}
theorem am_if_eq (ha : am_r a) (hd : am_b Y.1 pc (.ifCond .eq o) o q t) (kt : a = 0 → am_W G X Y d mc ms Q t ls st h k n) (kf : ¬ a = 0 → am_W G X Y d mc ms Q q ls st h k n) : am_W G X Y d mc ms Q pc ls (am_I a :: st) h k n := by
  obtain ⟨p, e, R, s, m, args, below, meth, c, ι0⟩ := X
  obtain ⟨hd, rfl, hg⟩ := hd
  intro ok ι H lr sr lc hr hl ht
  obtain ⟨w, sr, rfl, q1, ht1⟩ := am_T_1 ht
  cases q1
  exact lv_if_eq ok.1 ok.2.1 hd hg (fun z => kt ((am_eq ha am_r0).mp (by rw [← am_z]; exact z)) ok ι H lr _ lc hr hl ht1) (fun z => kf (fun y => z (by rw [am_z]; exact (am_eq ha am_r0).mpr y)) ok ι H lr _ lc hr hl ht1)
theorem am_if_ne (ha : am_r a) (hd : am_b Y.1 pc (.ifCond .ne o) o q t) (kt : ¬ a = 0 → am_W G X Y d mc ms Q t ls st h k n) (kf : a = 0 → am_W G X Y d mc ms Q q ls st h k n) : am_W G X Y d mc ms Q pc ls (am_I a :: st) h k n := by
  obtain ⟨p, e, R, s, m, args, below, meth, c, ι0⟩ := X
  obtain ⟨hd, rfl, hg⟩ := hd
  intro ok ι H lr sr lc hr hl ht
  obtain ⟨w, sr, rfl, q1, ht1⟩ := am_T_1 ht
  cases q1
  exact lv_if_ne ok.1 ok.2.1 hd hg (fun z => kt (fun y => absurd (show Int32.ofInt a = 0 by rw [am_z]; exact (am_eq ha am_r0).mpr y) z) ok ι H lr _ lc hr hl ht1) (fun z => kf ((am_eq ha am_r0).mp (by rw [← am_z]; exact z)) ok ι H lr _ lc hr hl ht1)
theorem am_if_lt (ha : am_r a) (hd : am_b Y.1 pc (.ifCond .lt o) o q t) (kt : a < 0 → am_W G X Y d mc ms Q t ls st h k n) (kf : ¬ a < 0 → am_W G X Y d mc ms Q q ls st h k n) : am_W G X Y d mc ms Q pc ls (am_I a :: st) h k n := by
  obtain ⟨p, e, R, s, m, args, below, meth, c, ι0⟩ := X
  obtain ⟨hd, rfl, hg⟩ := hd
  intro ok ι H lr sr lc hr hl ht
  obtain ⟨w, sr, rfl, q1, ht1⟩ := am_T_1 ht
  cases q1
  exact lv_if_lt ok.1 ok.2.1 hd hg (fun z => kt ((am_lt ha am_r0).mp (by rw [← am_z]; exact z)) ok ι H lr _ lc hr hl ht1) (fun z => kf (fun y => z (by rw [am_z]; exact (am_lt ha am_r0).mpr y)) ok ι H lr _ lc hr hl ht1)
theorem am_if_ge (ha : am_r a) (hd : am_b Y.1 pc (.ifCond .ge o) o q t) (kt : 0 ≤ a → am_W G X Y d mc ms Q t ls st h k n) (kf : ¬ 0 ≤ a → am_W G X Y d mc ms Q q ls st h k n) : am_W G X Y d mc ms Q pc ls (am_I a :: st) h k n := by
  obtain ⟨p, e, R, s, m, args, below, meth, c, ι0⟩ := X
  obtain ⟨hd, rfl, hg⟩ := hd
  intro ok ι H lr sr lc hr hl ht
  obtain ⟨w, sr, rfl, q1, ht1⟩ := am_T_1 ht
  cases q1
  exact lv_if_ge ok.1 ok.2.1 hd hg (fun z => kt ((am_lef am_r0 ha).mp (by rw [← am_z]; exact z)) ok ι H lr _ lc hr hl ht1) (fun z => kf (fun y => z (by show (0 : Int32) ≤ _; rw [am_z]; exact (am_lef am_r0 ha).mpr y)) ok ι H lr _ lc hr hl ht1)
theorem am_if_gt (ha : am_r a) (hd : am_b Y.1 pc (.ifCond .gt o) o q t) (kt : 0 < a → am_W G X Y d mc ms Q t ls st h k n) (kf : ¬ 0 < a → am_W G X Y d mc ms Q q ls st h k n) : am_W G X Y d mc ms Q pc ls (am_I a :: st) h k n := by
  obtain ⟨p, e, R, s, m, args, below, meth, c, ι0⟩ := X
  obtain ⟨hd, rfl, hg⟩ := hd
  intro ok ι H lr sr lc hr hl ht
  obtain ⟨w, sr, rfl, q1, ht1⟩ := am_T_1 ht
  cases q1
  exact lv_if_gt ok.1 ok.2.1 hd hg (fun z => kt ((am_lt am_r0 ha).mp (by rw [← am_z]; exact z)) ok ι H lr _ lc hr hl ht1) (fun z => kf (fun y => z (by show (0 : Int32) < _; rw [am_z]; exact (am_lt am_r0 ha).mpr y)) ok ι H lr _ lc hr hl ht1)
theorem am_if_le (ha : am_r a) (hd : am_b Y.1 pc (.ifCond .le o) o q t) (kt : a ≤ 0 → am_W G X Y d mc ms Q t ls st h k n) (kf : ¬ a ≤ 0 → am_W G X Y d mc ms Q q ls st h k n) : am_W G X Y d mc ms Q pc ls (am_I a :: st) h k n := by
  obtain ⟨p, e, R, s, m, args, below, meth, c, ι0⟩ := X
  obtain ⟨hd, rfl, hg⟩ := hd
  intro ok ι H lr sr lc hr hl ht
  obtain ⟨w, sr, rfl, q1, ht1⟩ := am_T_1 ht
  cases q1
  exact lv_if_le ok.1 ok.2.1 hd hg (fun z => kt ((am_lef ha am_r0).mp (by rw [← am_z]; exact z)) ok ι H lr _ lc hr hl ht1) (fun z => kf (fun y => z (by show _ ≤ (0 : Int32); rw [am_z]; exact (am_lef ha am_r0).mpr y)) ok ι H lr _ lc hr hl ht1)
theorem am_icmp_eq (ha : am_r a) (hb : am_r b) (hd : am_b Y.1 pc (.if_icmp .eq o) o q t) (kt : a = b → am_W G X Y d mc ms Q t ls st h k n) (kf : ¬ a = b → am_W G X Y d mc ms Q q ls st h k n) : am_W G X Y d mc ms Q pc ls (am_I b :: am_I a :: st) h k n := by
  obtain ⟨p, e, R, s, m, args, below, meth, c, ι0⟩ := X
  obtain ⟨hd, rfl, hg⟩ := hd
  intro ok ι H lr sr lc hr hl ht
  obtain ⟨w, sr, rfl, q1, ht1⟩ := am_T_1 ht
  obtain ⟨u, sr, rfl, q2, ht2⟩ := am_T_1 ht1
  cases q1; cases q2
  exact lv_icmp_eq ok.1 ok.2.1 hd hg (fun z => kt ((am_eq ha hb).mp z) ok ι H lr _ lc hr hl ht2) (fun z => kf (fun y => z ((am_eq ha hb).mpr y)) ok ι H lr _ lc hr hl ht2)
theorem am_icmp_ne (ha : am_r a) (hb : am_r b) (hd : am_b Y.1 pc (.if_icmp .ne o) o q t) (kt : ¬ a = b → am_W G X Y d mc ms Q t ls st h k n) (kf : a = b → am_W G X Y d mc ms Q q ls st h k n) : am_W G X Y d mc ms Q pc ls (am_I b :: am_I a :: st) h k n := by
  obtain ⟨p, e, R, s, m, args, below, meth, c, ι0⟩ := X
  obtain ⟨hd, rfl, hg⟩ := hd
  intro ok ι H lr sr lc hr hl ht
  obtain ⟨w, sr, rfl, q1, ht1⟩ := am_T_1 ht
  obtain ⟨u, sr, rfl, q2, ht2⟩ := am_T_1 ht1
  cases q1; cases q2
  exact lv_icmp_ne ok.1 ok.2.1 hd hg (fun z => kt (fun y => absurd ((am_eq ha hb).mpr y) z) ok ι H lr _ lc hr hl ht2) (fun z => kf ((am_eq ha hb).mp z) ok ι H lr _ lc hr hl ht2)
theorem am_icmp_lt (ha : am_r a) (hb : am_r b) (hd : am_b Y.1 pc (.if_icmp .lt o) o q t) (kt : a < b → am_W G X Y d mc ms Q t ls st h k n) (kf : ¬ a < b → am_W G X Y d mc ms Q q ls st h k n) : am_W G X Y d mc ms Q pc ls (am_I b :: am_I a :: st) h k n := by
  obtain ⟨p, e, R, s, m, args, below, meth, c, ι0⟩ := X
  obtain ⟨hd, rfl, hg⟩ := hd
  intro ok ι H lr sr lc hr hl ht
  obtain ⟨w, sr, rfl, q1, ht1⟩ := am_T_1 ht
  obtain ⟨u, sr, rfl, q2, ht2⟩ := am_T_1 ht1
  cases q1; cases q2
  exact lv_icmp_lt ok.1 ok.2.1 hd hg (fun z => kt ((am_lt ha hb).mp z) ok ι H lr _ lc hr hl ht2) (fun z => kf (fun y => z ((am_lt ha hb).mpr y)) ok ι H lr _ lc hr hl ht2)
theorem am_icmp_ge (ha : am_r a) (hb : am_r b) (hd : am_b Y.1 pc (.if_icmp .ge o) o q t) (kt : b ≤ a → am_W G X Y d mc ms Q t ls st h k n) (kf : ¬ b ≤ a → am_W G X Y d mc ms Q q ls st h k n) : am_W G X Y d mc ms Q pc ls (am_I b :: am_I a :: st) h k n := by
  obtain ⟨p, e, R, s, m, args, below, meth, c, ι0⟩ := X
  obtain ⟨hd, rfl, hg⟩ := hd
  intro ok ι H lr sr lc hr hl ht
  obtain ⟨w, sr, rfl, q1, ht1⟩ := am_T_1 ht
  obtain ⟨u, sr, rfl, q2, ht2⟩ := am_T_1 ht1
  cases q1; cases q2
  exact lv_icmp_ge ok.1 ok.2.1 hd hg (fun z => kt ((am_lef hb ha).mp z) ok ι H lr _ lc hr hl ht2) (fun z => kf (fun y => z ((am_lef hb ha).mpr y)) ok ι H lr _ lc hr hl ht2)
theorem am_icmp_gt (ha : am_r a) (hb : am_r b) (hd : am_b Y.1 pc (.if_icmp .gt o) o q t) (kt : b < a → am_W G X Y d mc ms Q t ls st h k n) (kf : ¬ b < a → am_W G X Y d mc ms Q q ls st h k n) : am_W G X Y d mc ms Q pc ls (am_I b :: am_I a :: st) h k n := by
  obtain ⟨p, e, R, s, m, args, below, meth, c, ι0⟩ := X
  obtain ⟨hd, rfl, hg⟩ := hd
  intro ok ι H lr sr lc hr hl ht
  obtain ⟨w, sr, rfl, q1, ht1⟩ := am_T_1 ht
  obtain ⟨u, sr, rfl, q2, ht2⟩ := am_T_1 ht1
  cases q1; cases q2
  exact lv_icmp_gt ok.1 ok.2.1 hd hg (fun z => kt ((am_lt hb ha).mp z) ok ι H lr _ lc hr hl ht2) (fun z => kf (fun y => z ((am_lt hb ha).mpr y)) ok ι H lr _ lc hr hl ht2)
theorem am_icmp_le (ha : am_r a) (hb : am_r b) (hd : am_b Y.1 pc (.if_icmp .le o) o q t) (kt : a ≤ b → am_W G X Y d mc ms Q t ls st h k n) (kf : ¬ a ≤ b → am_W G X Y d mc ms Q q ls st h k n) : am_W G X Y d mc ms Q pc ls (am_I b :: am_I a :: st) h k n := by
  obtain ⟨p, e, R, s, m, args, below, meth, c, ι0⟩ := X
  obtain ⟨hd, rfl, hg⟩ := hd
  intro ok ι H lr sr lc hr hl ht
  obtain ⟨w, sr, rfl, q1, ht1⟩ := am_T_1 ht
  obtain ⟨u, sr, rfl, q2, ht2⟩ := am_T_1 ht1
  cases q1; cases q2
  exact lv_icmp_le ok.1 ok.2.1 hd hg (fun z => kt ((am_lef ha hb).mp z) ok ι H lr _ lc hr hl ht2) (fun z => kf (fun y => z ((am_lef ha hb).mpr y)) ok ι H lr _ lc hr hl ht2)
theorem am_ifnull {x : Option am_Nm} (hd : am_b Y.1 pc (.ifnull o) o q t) (kt : x = none → am_W G X Y d mc ms Q t ls st h k n) (kf : ∀ y, x = some y → am_W G X Y d mc ms Q q ls st h k n) : am_W G X Y d mc ms Q pc ls (Sum.inr (Sum.inr x) :: st) h k n := by
  obtain ⟨p, e, R, s, m, args, below, meth, c, ι0⟩ := X
  obtain ⟨hd, rfl, hg⟩ := hd
  intro ok ι H lr sr lc hr hl ht
  obtain ⟨w, sr, rfl, q1, ht1⟩ := am_T_1 ht
  cases x with
  | none =>
    cases q1
    exact lv_ifnullN ok.1 ok.2.1 hd hg (kt rfl ok ι H lr _ lc hr hl ht1)
  | some y =>
    obtain ⟨a, -, rfl⟩ := q1
    exact lv_ifnull ok.1 ok.2.1 hd (kf y rfl ok ι H lr _ lc hr hl ht1)
theorem am_ifnonnull {x : Option am_Nm} (hd : am_b Y.1 pc (.ifnonnull o) o q t) (kt : ∀ y, x = some y → am_W G X Y d mc ms Q t ls st h k n) (kf : x = none → am_W G X Y d mc ms Q q ls st h k n) : am_W G X Y d mc ms Q pc ls (Sum.inr (Sum.inr x) :: st) h k n := by
  obtain ⟨p, e, R, s, m, args, below, meth, c, ι0⟩ := X
  obtain ⟨hd, rfl, hg⟩ := hd
  intro ok ι H lr sr lc hr hl ht
  obtain ⟨w, sr, rfl, q1, ht1⟩ := am_T_1 ht
  cases x with
  | none =>
    cases q1
    exact lv_ifnonnullN ok.1 ok.2.1 hd (kf rfl ok ι H lr _ lc hr hl ht1)
  | some y =>
    obtain ⟨a, -, rfl⟩ := q1
    exact lv_ifnonnull ok.1 ok.2.1 hd hg (kt y rfl ok ι H lr _ lc hr hl ht1)
end AmIf
end AmPure
end
section
/-! the heap's rows -/
/-- the type of a field, by class and place -/
def am_fty (ci : Nat) : Nat → FieldType := match ci with
  | 0 => tyX0 | 1 => tyX1 | 2 => tyX2 | 3 => tyX3 | 4 => tyX4 | 5 => tyX5 | 6 => tyX6 | 7 => tyX7 | 8 => tyX8 | _ => tyX9
theorem am_in0 : ∀ w ∈ u_ws RX0 TX0 5, w ∈ am_uw := by decide +kernel
theorem am_in1 : ∀ w ∈ u_ws RX1 TX1 3, w ∈ am_uw := by decide +kernel
theorem am_in2 : ∀ w ∈ u_ws RX2 TX2 6, w ∈ am_uw := by decide +kernel
theorem am_in3 : ∀ w ∈ u_ws RX3 TX3 4, w ∈ am_uw := by decide +kernel
theorem am_in4 : ∀ w ∈ u_ws RX4 TX4 3, w ∈ am_uw := by decide +kernel
theorem am_in5 : ∀ w ∈ u_ws RX5 TX5 5, w ∈ am_uw := by decide +kernel
theorem am_in6 : ∀ w ∈ u_ws RX6 TX6 5, w ∈ am_uw := by decide +kernel
theorem am_in7 : ∀ w ∈ u_ws RX7 TX7 4, w ∈ am_uw := by decide +kernel
theorem am_in8 : ∀ w ∈ u_ws RX8 TX8 14, w ∈ am_uw := by decide +kernel
theorem am_in9 : ∀ w ∈ u_ws RX9 TX9 43, w ∈ am_uw := by decide +kernel
def am_cok (ci : Nat) (r : vw_C) : Prop := (∀ w ∈ u_ws r.1 r.2.1 r.2.2, w ∈ am_uw) ∧ (∀ k, k < r.2.2 → parseFieldDescriptor (r.2.1 k).2.2.1 = some (am_fty ci k)) ∧ (∀ a, a < r.2.2 → ∀ b, b < r.2.2 → a ≠ b → (r.2.1 a).2.1 ≠ (r.2.1 b).2.1) ∧ (∀ k, k < r.2.2 → (r.2.1 k).1 = r.1)
theorem am_cls {ci : Nat} {r : vw_C} (h : vwCl[ci]? = some r) : am_cok ci r := by
  match ci, h with
  | 0, h => cases h; exact ⟨am_in0, tyX0_ok, nmX0, by decide +kernel⟩
  | 1, h => cases h; exact ⟨am_in1, tyX1_ok, nmX1, by decide +kernel⟩
  | 2, h => cases h; exact ⟨am_in2, tyX2_ok, nmX2, by decide +kernel⟩
  | 3, h => cases h; exact ⟨am_in3, tyX3_ok, nmX3, by decide +kernel⟩
  | 4, h => cases h; exact ⟨am_in4, tyX4_ok, nmX4, by decide +kernel⟩
  | 5, h => cases h; exact ⟨am_in5, tyX5_ok, nmX5, by decide +kernel⟩
  | 6, h => cases h; exact ⟨am_in6, tyX6_ok, nmX6, by decide +kernel⟩
  | 7, h => cases h; exact ⟨am_in7, tyX7_ok, nmX7, by decide +kernel⟩
  | 8, h => cases h; exact ⟨am_in8, tyX8_ok, nmX8, by decide +kernel⟩
  | 9, h => cases h; exact ⟨am_in9, tyX9_ok, nmX9, by decide +kernel⟩
  | ci + 10, h => simp [vwCl] at h
/-- a field's link: the class and the place of it; its own class's, or a nest mate's -/
def am_fl (own : String) (idx ci j : Nat) : Prop := ∃ r, vwCl[ci]? = some r ∧ j < r.2.2 ∧ (Cond.fieldLink own idx (r.2.1 j).1 (r.2.1 j).2.1 (r.2.1 j).2.2.1 ∈ am_uw ∨ ∃ host, Cond.fieldLinkNest own idx (r.2.1 j).1 (r.2.1 j).2.1 (r.2.1 j).2.2.1 host ∈ lw_tbl)
def am_fin (ci j : Nat) : Bool := match vwCl[ci]? with
  | some r => (r.2.1 j).2.2.2
  | none => false
/-- a value fits a field's type -/
def am_fit (ty : FieldType) (v : am_AV) : Prop := match ty, v with
  | .int, .inl _ => True
  | .boolean, .inl x => x = 0 ∨ x = 1
  | .object _, .inr (.inr _) => True
  | .array _, .inr (.inr _) => True
  | _, _ => False
theorem am_fit_of {ty : FieldType} {v : am_AV} {ι : am_Nm → Option Nat} {w : Value} (h : am_fit ty v) (hv : am_V ι v w) : narrow ty w = w ∧ fits ty w = true := by
  match ty, v, h, hv with
  | .int, .inl x, _, hv => cases hv; exact ⟨rfl, rfl⟩
  | .boolean, .inl x, h, hv =>
    cases hv
    rcases h with rfl | rfl <;> exact ⟨by decide +kernel, by decide +kernel⟩
  | .object c, .inr (.inr none), _, hv => cases hv; exact ⟨rfl, rfl⟩
  | .object c, .inr (.inr (some x)), _, hv => obtain ⟨a, -, rfl⟩ := hv; exact ⟨rfl, rfl⟩
  | .array c, .inr (.inr none), _, hv => cases hv; exact ⟨rfl, rfl⟩
  | .array c, .inr (.inr (some x)), _, hv => obtain ⟨a, -, rfl⟩ := hv; exact ⟨rfl, rfl⟩
section AmHeap
variable {G : am_G} {X : am_X} {Y : am_Y} {d mc ms : Nat} {Q : State → Prop} {pc q t : Nat} {ls : List (Option am_AV)} {st : List am_AV} {h : am_AH} {k n : Nat}
theorem am_getf {nm : am_Nm} {idx ci j : Nat} {fs : List am_AV} {v : am_AV} (hd : am_d Y.1 pc (.getfield idx) 3 q) (hf : am_fl Y.2.2.1 idx ci j) (hh : h nm = some (am_O ci fs)) (hv : fs[j]? = some v) (kk : am_W G X Y d mc ms Q q ls (v :: st) h k n) : am_W G X Y d mc ms Q pc ls (am_R nm :: st) h k n := by
  obtain ⟨p, e, R, s, m, args, below, meth, c, ι0⟩ := X
  obtain ⟨hd, rfl⟩ := hd
  intro ok ι H lr sr lc hr hl ht
  obtain ⟨w, sr, rfl, ⟨a, ha, rfl⟩, ht1⟩ := am_T_1 ht
  have ok' := ok
  obtain ⟨hx, hb, -, hown, hts, -, -, -, -, -, -, -, -, -, hK⟩ := ok
  obtain ⟨hKa, -, hmv, -⟩ := id hK
  obtain ⟨a', ha', r, V, hr1, ⟨ce9, q1, q2, q3, q4⟩, hV⟩ := hr.1.1 nm _ hh
  cases ha.symm.trans ha'
  obtain ⟨r', hr1', hj, hlk⟩ := hf
  cases hr1.symm.trans hr1'
  obtain ⟨c1, c2, c3, c4⟩ := am_cls hr1
  obtain ⟨hS, hfc, kC, hkC, hkind⟩ := hKa.1 ci _ hr1
  obtain ⟨cf, kf, fi, f, hi, hsl⟩ := hS j hj
  have hst := (u_facts hfc hkC (u_lays hts c1 hj) hi).1
  have hv2 := hV j v hv
  have hslot : ce9.slots[f.slot]? = some (V j) := by rw [hsl, q4 j hj]
  have hkn : ce9.vm ≠ .unknown := by rw [q3]; exact fun z => by cases z
  rcases hlk with hlk | ⟨host, hlk⟩
  · exact W.getf hx hb hown (hts _ hlk) hi hst q1 hkn hslot rfl rfl hd (kk ok' ι H lr _ lc hr hl ⟨hv2, ht1⟩)
  · exact va_Wgetf hx hb hown (va_Nw.use rfl (hmv _ hlk rfl)) hi hst q1 hkn hslot rfl rfl hd (kk ok' ι H lr _ lc hr hl ⟨hv2, ht1⟩)
theorem am_scr_ne {ι : am_Nm → Option Nat} {H : Heap} {nm : am_Nm} {c : am_AC} {a : Nat} (hH : am_H G ι h H) (hh : h nm = some c) (ha : ι nm = some a) : am_free G a := by
  rcases hH.2.1 nm a ha with ⟨e, -⟩ | ⟨-, z, -⟩
  · rw [e] at hh; rw [hH.2.2.2.1] at hh; cases hh
  · exact z
theorem am_Rel_set {ι : am_Nm → Option Nat} {H H1 : Heap} {nm : am_Nm} {c c1 : am_AC} {a sl : Nat} {lc : List Loc} (hr : am_Rel G X ι h H lc) (hh : h nm = some c) (ha : ι nm = some a) (hz : H1.size = H.size) (ho : ∀ b, b ≠ a → H1[b]? = H[b]?) (hc : am_C G ι c1 a H1) : am_Rel G X ι (am_up h nm c1) H1 (lc ++ [⟨a, sl⟩]) := by
  obtain ⟨p, e, R, s, m, args, below, meth, c, ι0⟩ := X
  obtain ⟨r1, r2, r3, r4, r5⟩ := hr
  have hfr := am_scr_ne r1 hh ha
  refine ⟨am_H_set r1 hh ha hz ho hc, ⟨by rw [hz]; exact r2.1, fun x hx => ?_⟩, by rw [hz]; exact r3, fun z hz => ?_, r5⟩
  · rw [ho x (fun e => by subst e; exact absurd hx (Nat.not_lt.mpr hfr))]
    exact r2.2 x hx
  · rcases List.mem_append.mp hz with hz | hz
    · exact r4 z hz
    · rw [List.mem_singleton.mp hz]; exact hfr
theorem am_putf {nm : am_Nm} {idx ci j : Nat} {fs : List am_AV} {v : am_AV} (hd : am_d Y.1 pc (.putfield idx) 3 q) (hf : am_fl Y.2.2.1 idx ci j) (hfin : am_fin ci j = false) (hh : h nm = some (am_O ci fs)) (hj0 : j < fs.length) (hfit : am_fit (am_fty ci j) v) (kk : am_W G X Y d mc ms Q q ls st (am_up h nm (am_O ci (fs.set j v))) k n) : am_W G X Y d mc ms Q pc ls (v :: am_R nm :: st) h k n := by
  obtain ⟨p, e, R, s, m, args, below, meth, c, ι0⟩ := X
  obtain ⟨hd, rfl⟩ := hd
  intro ok ι H lr sr lc hr hl ht
  obtain ⟨w, sr, rfl, hw, ht1⟩ := am_T_1 ht
  obtain ⟨w2, sr, rfl, ⟨a, ha, rfl⟩, ht2⟩ := am_T_1 ht1
  have ok' := ok
  obtain ⟨hx, hb, -, hown, hts, -, -, -, -, -, -, -, -, -, hK⟩ := ok
  obtain ⟨hKa, -, hmv, -⟩ := id hK
  obtain ⟨a', ha', r, V, hr1, ⟨ce9, q1, q2, q3, q4⟩, hV⟩ := hr.1.1 nm _ hh
  cases ha.symm.trans ha'
  obtain ⟨r', hr1', hj, hlk⟩ := hf
  cases hr1.symm.trans hr1'
  obtain ⟨c1, c2, c3, c4⟩ := am_cls hr1
  have hap := va_apart (own := Y.2.2.1) hts c1 (am_fty ci) c2 c3 hKa hr1
  obtain ⟨hS, hfc, kC, hkC, hkind⟩ := hKa.1 ci _ hr1
  obtain ⟨cf, kf, fi, f, hi, hsl⟩ := hS j hj
  have hlay := hts _ (c1 _ (u_in_lay hj))
  have hfin2 : (r.2.1 j).2.2.2 = false := by simpa [am_fin, hr1] using hfin
  unfold u_lay at hlay
  rw [if_neg (by rw [hfin2]; decide)] at hlay
  have hst := (u_facts hfc hkC (u_lays hts c1 hj) hi).1
  obtain ⟨hn, hft⟩ := am_fit_of hfit hw
  have h6 := u_store hfc hkC hkind hlay hi (c2 j hj) hn hft
  have hlt : f.slot < ce9.slots.size := by rw [hsl]; exact k2_hasslot (q4 j hj)
  have key : ∀ H' : Heap, H'[a]? = some (ce9.setSlot f.slot w) → H'.size = H.size → (∀ q, q ≠ a → H'[q]? = H[q]?) → W p G.1 e R s m args below meth c H' (lc ++ [⟨a, f.slot⟩]) k n Q (F0 m (pc + 3) lr sr) := by
    intro H' e1 e2 e3
    refine kk ok' ι H' lr sr _ (am_Rel_set hr hh ha e2 e3 ?_) hl ht2
    rw [hsl] at e1
    refine ⟨r, updV V j w, hr1, ⟨_, e1, q2, q3, t_set q4 hap hj w⟩, fun i v' hi' => ?_⟩
    by_cases ei : i = j
    · subst ei
      rw [List.getElem?_set_self hj0] at hi'
      cases hi'
      simpa [updV] using hw
    · rw [List.getElem?_set_ne (Ne.symm ei)] at hi'
      simpa [updV, ei] using hV i v' hi'
  rcases hlk with hlk | ⟨host, hlk⟩
  · exact W.putK hx hb (f := f) ⟨hown, hts _ hlk, ⟨_, _, _, hi⟩, hst⟩ (by rw [q2]; exact h6) q1 q3 hlt rfl rfl hd key
  · exact va_WputK hx hb hown (va_Nw.use rfl (hmv _ hlk rfl)) hi hst (by rw [q2]; exact h6) q1 q3 hlt rfl rfl hd key
theorem am_putF {nm : am_Nm} {idx ci j : Nat} {fs : List am_AV} {v : am_AV} (hd : am_d Y.1 pc (.putfield idx) 3 q) (hf : am_fl Y.2.2.1 idx ci j) (hfin : am_fin ci j = true) (hinit : Y.2.2.2.2.1 = true) (hcl : (vwCl[ci]?).map (fun r => r.1) = some Y.2.2.1) (hh : h nm = some (am_O ci fs)) (hj0 : j < fs.length) (hfit : am_fit (am_fty ci j) v) (kk : am_W G X Y d mc ms Q q ls st (am_up h nm (am_O ci (fs.set j v))) k n) : am_W G X Y d mc ms Q pc ls (v :: am_R nm :: st) h k n := by
  obtain ⟨p, e, R, s, m, args, below, meth, c, ι0⟩ := X
  obtain ⟨hd, rfl⟩ := hd
  intro ok ι H lr sr lc hr hl ht
  obtain ⟨w, sr, rfl, hw, ht1⟩ := am_T_1 ht
  obtain ⟨w2, sr, rfl, ⟨a, ha, rfl⟩, ht2⟩ := am_T_1 ht1
  have ok' := ok
  obtain ⟨hx, hb, -, hown, hts, -, -, hnm, -, -, -, -, -, -, hK⟩ := ok
  obtain ⟨hKa, -, hmv, -⟩ := id hK
  obtain ⟨a', ha', r, V, hr1, ⟨ce9, q1, q2, q3, q4⟩, hV⟩ := hr.1.1 nm _ hh
  cases ha.symm.trans ha'
  obtain ⟨r', hr1', hj, hlk⟩ := hf
  cases hr1.symm.trans hr1'
  obtain ⟨c1, c2, c3, c4⟩ := am_cls hr1
  have hap := va_apart (own := Y.2.2.1) hts c1 (am_fty ci) c2 c3 hKa hr1
  obtain ⟨hS, hfc, kC, hkC, hkind⟩ := hKa.1 ci _ hr1
  obtain ⟨cf, kf, fi, f, hi, hsl⟩ := hS j hj
  have hlay := hts _ (c1 _ (u_in_lay hj))
  have hfin2 : (r.2.1 j).2.2.2 = true := by simpa [am_fin, hr1] using hfin
  have hdecl : (r.2.1 j).1 = Y.2.2.1 := by rw [c4 j hj]; simpa [hr1] using hcl
  unfold u_lay at hlay
  rw [if_pos hfin2] at hlay
  have hst := (u_facts hfc hkC (u_lays hts c1 hj) hi).1
  have hcf : m.cls = cf := by
    obtain ⟨_, _, c', _, _, _, -, -, hf', -, -, -, hown2, -⟩ := Cond.laysFinal_spec hlay
    have e1 : c' = cf := by have := hi.symm.trans hf'; simp at this; exact this.1.symm
    rw [hdecl] at hown2
    rw [← e1]; exact Option.some.inj (hown.symm.trans hown2)
  obtain ⟨hn, hft⟩ := am_fit_of hfit hw
  have h6 := u_fits hfc hkC hkind (Or.inr hlay) hi (c2 j hj) hn hft
  have hlt : f.slot < ce9.slots.size := by rw [hsl]; exact k2_hasslot (q4 j hj)
  have key : ∀ H' : Heap, H'[a]? = some (ce9.setSlot f.slot w) → H'.size = H.size → (∀ q, q ≠ a → H'[q]? = H[q]?) → W p G.1 e R s m args below meth c H' (lc ++ [⟨a, f.slot⟩]) k n Q (F0 m (pc + 3) lr sr) := by
    intro H' e1 e2 e3
    refine kk ok' ι H' lr sr _ (am_Rel_set hr hh ha e2 e3 ?_) hl ht2
    rw [hsl] at e1
    refine ⟨r, updV V j w, hr1, ⟨_, e1, q2, q3, t_set q4 hap hj w⟩, fun i v' hi' => ?_⟩
    by_cases ei : i = j
    · subst ei
      rw [List.getElem?_set_self hj0] at hi'
      cases hi'
      simpa [updV] using hw
    · rw [List.getElem?_set_ne (Ne.symm ei)] at hi'
      simpa [updV, ei] using hV i v' hi'
  rcases hlk with hlk | ⟨host, hlk⟩
  · exact W.putFinK hx hb hown (hts _ hlk) hi hst hcf (hnm hinit) (by rw [q2]; exact h6) q1 q3 hlt rfl rfl hd key
  · exact va_Wputf hx hb hown (va_Nw.use rfl (hmv _ hlk rfl)) hi hst (Or.inr ⟨hcf, hnm hinit⟩) q1 (by rw [q3]; exact fun z => by cases z) hlt h6.1 (by rw [q2, q3]; exact h6.2) rfl rfl hd (key _ (by simp [Array.getElem?_setIfInBounds, (Array.getElem?_eq_some_iff.mp q1).1]) (by simp) (fun b hb => by simp [Array.getElem?_setIfInBounds, Ne.symm hb]))
theorem am_iald {nm : am_Nm} {len : Nat} {f : Nat → am_AV} {i x : Int} (hd : am_d Y.1 pc .iaload 1 q) (hh : h nm = some (am_A 0 len f)) (h0 : 0 ≤ i) (h1 : i < len) (hz : len < 2147483648) (hv : f i.toNat = am_I x) (kk : am_W G X Y d mc ms Q q ls (am_I x :: st) h k n) : am_W G X Y d mc ms Q pc ls (am_I i :: am_R nm :: st) h k n := by
  obtain ⟨p, e, R, s, m, args, below, meth, c, ι0⟩ := X
  obtain ⟨hd, rfl⟩ := hd
  intro ok ι H lr sr lc hr hl ht
  obtain ⟨w, sr, rfl, hw, ht1⟩ := am_T_1 ht
  cases hw
  obtain ⟨w2, sr, rfl, ⟨a, ha, rfl⟩, ht2⟩ := am_T_1 ht1
  obtain ⟨a', ha', wv, q1, q2⟩ := hr.1.1 nm _ hh
  cases ha.symm.trans ha'
  obtain ⟨b1, b2⟩ := am_idx h0 h1 hz
  have hy := q2 i.toNat (by omega)
  rw [hv] at hy
  refine W.iald ok.1 ok.2.1 q1 ((ok.2.2.2.2.2.2.2.2.2.2.2.2.2.2.1.2 0 _ (am_tys_at G 0 (by decide))).1 len wv) (fun z => by cases z) (by rw [arrV_size]; exact b1) (v := wv i.toNat) (by rw [b2]; exact arrV_read _ _ (by omega)) rfl rfl hd ?_
  exact kk ok ι H lr _ lc hr hl ⟨hy, ht2⟩
theorem am_bald {nm : am_Nm} {len : Nat} {f : Nat → am_AV} {i x : Int} (hd : am_d Y.1 pc .baload 1 q) (hh : h nm = some (am_A 1 len f)) (h0 : 0 ≤ i) (h1 : i < len) (hz : len < 2147483648) (hv : f i.toNat = am_I x) (kk : am_W G X Y d mc ms Q q ls (am_I x :: st) h k n) : am_W G X Y d mc ms Q pc ls (am_I i :: am_R nm :: st) h k n := by
  obtain ⟨p, e, R, s, m, args, below, meth, c, ι0⟩ := X
  obtain ⟨hd, rfl⟩ := hd
  intro ok ι H lr sr lc hr hl ht
  obtain ⟨w, sr, rfl, hw, ht1⟩ := am_T_1 ht
  cases hw
  obtain ⟨w2, sr, rfl, ⟨a, ha, rfl⟩, ht2⟩ := am_T_1 ht1
  obtain ⟨a', ha', wv, q1, q2⟩ := hr.1.1 nm _ hh
  cases ha.symm.trans ha'
  obtain ⟨b1, b2⟩ := am_idx h0 h1 hz
  have hy := q2 i.toNat (by omega)
  rw [hv] at hy
  refine W.zald ok.1 ok.2.1 q1 ((ok.2.2.2.2.2.2.2.2.2.2.2.2.2.2.1.2 1 _ (am_tys_at G 1 (by decide))).1 len wv) (fun z => by cases z) (by rw [arrV_size]; exact b1) (v := wv i.toNat) (by rw [b2]; exact arrV_read _ _ (by omega)) rfl rfl hd ?_
  exact kk ok ι H lr _ lc hr hl ⟨hy, ht2⟩
theorem am_lald {nm : am_Nm} {len : Nat} {f : Nat → am_AV} {i x : Int} (hd : am_d Y.1 pc .laload 1 q) (hh : h nm = some (am_A 2 len f)) (h0 : 0 ≤ i) (h1 : i < len) (hz : len < 2147483648) (hv : f i.toNat = am_J x) (kk : am_W G X Y d mc ms Q q ls (am_J x :: st) h k n) : am_W G X Y d mc ms Q pc ls (am_I i :: am_R nm :: st) h k n := by
  obtain ⟨p, e, R, s, m, args, below, meth, c, ι0⟩ := X
  obtain ⟨hd, rfl⟩ := hd
  intro ok ι H lr sr lc hr hl ht
  obtain ⟨w, sr, rfl, hw, ht1⟩ := am_T_1 ht
  cases hw
  obtain ⟨w2, sr, rfl, ⟨a, ha, rfl⟩, ht2⟩ := am_T_1 ht1
  obtain ⟨a', ha', wv, q1, q2⟩ := hr.1.1 nm _ hh
  cases ha.symm.trans ha'
  obtain ⟨b1, b2⟩ := am_idx h0 h1 hz
  have hy := q2 i.toNat (by omega)
  rw [hv] at hy
  refine W.lald ok.1 ok.2.1 q1 ((ok.2.2.2.2.2.2.2.2.2.2.2.2.2.2.1.2 2 _ (am_tys_at G 2 (by decide))).1 len wv) (fun z => by cases z) (by rw [arrV_size]; exact b1) (v := wv i.toNat) (by rw [b2]; exact arrV_read _ _ (by omega)) rfl rfl hd ?_
  exact kk ok ι H lr _ lc hr hl ⟨hy, ht2⟩
theorem am_ty_ref {kd : Nat} (h3 : 3 ≤ kd) (h8 : kd < 8) : (am_ty kd).isReference = true := by
  rcases (show kd = 3 ∨ kd = 4 ∨ kd = 5 ∨ kd = 6 ∨ kd = 7 by omega) with rfl | rfl | rfl | rfl | rfl <;> rfl
theorem am_aald {nm : am_Nm} {kd len : Nat} {f : Nat → am_AV} {i : Int} {x : am_AV} (hd : am_d Y.1 pc .aaload 1 q) (hh : h nm = some (am_A kd len f)) (hk3 : 3 ≤ kd) (hk8 : kd < 8) (h0 : 0 ≤ i) (h1 : i < len) (hz : len < 2147483648) (hv : f i.toNat = x) (kk : am_W G X Y d mc ms Q q ls (x :: st) h k n) : am_W G X Y d mc ms Q pc ls (am_I i :: am_R nm :: st) h k n := by
  obtain ⟨p, e, R, s, m, args, below, meth, c, ι0⟩ := X
  obtain ⟨hd, rfl⟩ := hd
  intro ok ι H lr sr lc hr hl ht
  obtain ⟨w, sr, rfl, hw, ht1⟩ := am_T_1 ht
  cases hw
  obtain ⟨w2, sr, rfl, ⟨a, ha, rfl⟩, ht2⟩ := am_T_1 ht1
  obtain ⟨a', ha', wv, q1, q2⟩ := hr.1.1 nm _ hh
  cases ha.symm.trans ha'
  obtain ⟨b1, b2⟩ := am_idx h0 h1 hz
  have hy := q2 i.toNat (by omega)
  rw [hv] at hy
  refine W.aald ok.1 ok.2.1 q1 ((ok.2.2.2.2.2.2.2.2.2.2.2.2.2.2.1.2 kd _ (am_tys_at G kd hk8)).1 len wv) (am_ty_ref hk3 hk8) (fun z => by cases z) (by rw [arrV_size]; exact b1) (v := wv i.toNat) (by rw [b2]; exact arrV_read _ _ (by omega)) rfl rfl hd ?_
  exact kk ok ι H lr _ lc hr hl ⟨hy, ht2⟩
theorem am_C_uf {ι : am_Nm → Option Nat} {kd len i a : Nat} {f : Nat → am_AV} {wv : Nat → Value} {v : am_AV} {w : Value} {H1 : Heap} (e1 : H1[a]? = some (arrV (G.2.2.2.2.1 kd) len (updV wv i w))) (hq : ∀ j, j < len → am_V ι (f j) (wv j)) (hv : am_V ι v w) : am_C G ι (am_A kd len (am_uf f i v)) a H1 := by
  refine ⟨_, e1, fun j hj => ?_⟩
  by_cases ej : j = i
  · simpa [am_uf, updV, ej] using hv
  · simpa [am_uf, updV, ej] using hq j hj
theorem am_iast {nm : am_Nm} {len : Nat} {f : Nat → am_AV} {i x : Int} (hd : am_d Y.1 pc .iastore 1 q) (hh : h nm = some (am_A 0 len f)) (h0 : 0 ≤ i) (h1 : i < len) (hz : len < 2147483648) (kk : am_W G X Y d mc ms Q q ls st (am_up h nm (am_A 0 len (am_uf f i.toNat (am_I x)))) k n) : am_W G X Y d mc ms Q pc ls (am_I x :: am_I i :: am_R nm :: st) h k n := by
  obtain ⟨p, e, R, s, m, args, below, meth, c, ι0⟩ := X
  obtain ⟨hd, rfl⟩ := hd
  intro ok ι H lr sr lc hr hl ht
  obtain ⟨w, sr, rfl, hw, ht1⟩ := am_T_1 ht
  cases hw
  obtain ⟨w1, sr, rfl, hw1, ht2⟩ := am_T_1 ht1
  cases hw1
  obtain ⟨w2, sr, rfl, ⟨a, ha, rfl⟩, ht3⟩ := am_T_1 ht2
  obtain ⟨a', ha', wv, q1, q2⟩ := hr.1.1 nm _ hh
  cases ha.symm.trans ha'
  obtain ⟨b1, b2⟩ := am_idx h0 h1 hz
  refine W.iast ok.1 ok.2.1 q1 ((ok.2.2.2.2.2.2.2.2.2.2.2.2.2.2.1.2 0 _ (am_tys_at G 0 (by decide))).1 len wv) (fun z => by cases z) (by rw [arrV_size]; exact b1) rfl rfl hd fun H' e1 e2 e3 => ?_
  rw [b2, arrV_store] at e1
  rw [b2]
  exact kk ok ι H' lr sr _ (am_Rel_set hr hh ha e2 e3 (am_C_uf e1 q2 rfl)) hl ht3
theorem am_bast {nm : am_Nm} {len : Nat} {f : Nat → am_AV} {i x : Int} (hd : am_d Y.1 pc .bastore 1 q) (hh : h nm = some (am_A 1 len f)) (h0 : 0 ≤ i) (h1 : i < len) (hz : len < 2147483648) (hx : x = 0 ∨ x = 1) (kk : am_W G X Y d mc ms Q q ls st (am_up h nm (am_A 1 len (am_uf f i.toNat (am_I x)))) k n) : am_W G X Y d mc ms Q pc ls (am_I x :: am_I i :: am_R nm :: st) h k n := by
  obtain ⟨p, e, R, s, m, args, below, meth, c, ι0⟩ := X
  obtain ⟨hd, rfl⟩ := hd
  intro ok ι H lr sr lc hr hl ht
  obtain ⟨w, sr, rfl, hw, ht1⟩ := am_T_1 ht
  cases hw
  obtain ⟨w1, sr, rfl, hw1, ht2⟩ := am_T_1 ht1
  cases hw1
  obtain ⟨w2, sr, rfl, ⟨a, ha, rfl⟩, ht3⟩ := am_T_1 ht2
  obtain ⟨a', ha', wv, q1, q2⟩ := hr.1.1 nm _ hh
  cases ha.symm.trans ha'
  obtain ⟨b1, b2⟩ := am_idx h0 h1 hz
  have hn : narrow .boolean (.int (Int32.ofInt x)) = .int (Int32.ofInt x) := by rcases hx with rfl | rfl <;> decide +kernel
  refine W.zast ok.1 ok.2.1 q1 ((ok.2.2.2.2.2.2.2.2.2.2.2.2.2.2.1.2 1 _ (am_tys_at G 1 (by decide))).1 len wv) (fun z => by cases z) (by rw [arrV_size]; exact b1) rfl rfl hd fun H' e1 e2 e3 => ?_
  rw [b2, arrV_store, hn] at e1
  rw [b2]
  exact kk ok ι H' lr sr _ (am_Rel_set hr hh ha e2 e3 (am_C_uf e1 q2 rfl)) hl ht3
theorem am_last {nm : am_Nm} {len : Nat} {f : Nat → am_AV} {i x : Int} (hd : am_d Y.1 pc .lastore 1 q) (hh : h nm = some (am_A 2 len f)) (h0 : 0 ≤ i) (h1 : i < len) (hz : len < 2147483648) (kk : am_W G X Y d mc ms Q q ls st (am_up h nm (am_A 2 len (am_uf f i.toNat (am_J x)))) k n) : am_W G X Y d mc ms Q pc ls (am_J x :: am_I i :: am_R nm :: st) h k n := by
  obtain ⟨p, e, R, s, m, args, below, meth, c, ι0⟩ := X
  obtain ⟨hd, rfl⟩ := hd
  intro ok ι H lr sr lc hr hl ht
  obtain ⟨w, sr, rfl, hw, ht1⟩ := am_T_1 ht
  cases hw
  obtain ⟨w1, sr, rfl, hw1, ht2⟩ := am_T_1 ht1
  cases hw1
  obtain ⟨w2, sr, rfl, ⟨a, ha, rfl⟩, ht3⟩ := am_T_1 ht2
  obtain ⟨a', ha', wv, q1, q2⟩ := hr.1.1 nm _ hh
  cases ha.symm.trans ha'
  obtain ⟨b1, b2⟩ := am_idx h0 h1 hz
  refine W.last ok.1 ok.2.1 q1 ((ok.2.2.2.2.2.2.2.2.2.2.2.2.2.2.1.2 2 _ (am_tys_at G 2 (by decide))).1 len wv) (fun z => by cases z) (by rw [arrV_size]; exact b1) rfl rfl hd fun H' e1 e2 e3 => ?_
  rw [b2, arrV_store] at e1
  rw [b2]
  exact kk ok ι H' lr sr _ (am_Rel_set hr hh ha e2 e3 (am_C_uf e1 q2 rfl)) hl ht3
/-- the class of a kind of array's elements -/
def am_el (kd : Nat) : Nat := match kd with
  | 3 => 7 | 4 => 5 | 5 => 1 | 6 => 4 | _ => 2
theorem am_aast {nm y : am_Nm} {kd len : Nat} {f : Nat → am_AV} {fs : List am_AV} {i : Int} (hd : am_d Y.1 pc .aastore 1 q) (hh : h nm = some (am_A kd len f)) (hk3 : 3 ≤ kd) (hk8 : kd < 8) (h0 : 0 ≤ i) (h1 : i < len) (hz : len < 2147483648) (hy : h y = some (am_O (am_el kd) fs)) (kk : am_W G X Y d mc ms Q q ls st (am_up h nm (am_A kd len (am_uf f i.toNat (am_R y)))) k n) : am_W G X Y d mc ms Q pc ls (am_R y :: am_I i :: am_R nm :: st) h k n := by
  obtain ⟨p, e, R, s, m, args, below, meth, c, ι0⟩ := X
  obtain ⟨hd, rfl⟩ := hd
  intro ok ι H lr sr lc hr hl ht
  obtain ⟨w, sr, rfl, ⟨ay, hay, rfl⟩, ht1⟩ := am_T_1 ht
  obtain ⟨w1, sr, rfl, hw1, ht2⟩ := am_T_1 ht1
  cases hw1
  obtain ⟨w2, sr, rfl, ⟨a, ha, rfl⟩, ht3⟩ := am_T_1 ht2
  obtain ⟨a', ha', wv, q1, q2⟩ := hr.1.1 nm _ hh
  cases ha.symm.trans ha'
  obtain ⟨ay', hay', r, V, hr1, ⟨ceV, g1, g2, g3, -⟩, -⟩ := hr.1.1 y _ hy
  cases hay.symm.trans hay'
  obtain ⟨b1, b2⟩ := am_idx h0 h1 hz
  have hKa : va_K (G.2.2.1, G.2.2.2.1) vwCl (am_tys G) s := ok.2.2.2.2.2.2.2.2.2.2.2.2.2.2.1
  have hcls := (hKa.1 _ r hr1).2
  have hra : va_RA s (G.2.2.2.2.1 kd) (.object r.1) := by
    have h2 := (hKa.2 kd _ (am_tys_at G kd hk8)).2
    rcases (show kd = 3 ∨ kd = 4 ∨ kd = 5 ∨ kd = 6 ∨ kd = 7 by omega) with rfl | rfl | rfl | rfl | rfl <;> (cases hr1; exact h2)
  obtain ⟨kA, comp, k1, k2, k3, -⟩ := hra
  have hcomp : comp = G.2.2.1 (am_el kd) := Option.some.inj (k3.symm.trans hcls.1)
  subst hcomp
  obtain ⟨kC, hkC, -⟩ := id hcls.2
  refine W.aast ok.1 ok.2.1 q1 (fun q h => by cases h) (fun h => by cases h) k1 k2 rfl hkC ⟨fun z => b1 (Or.inl z), by rw [arrV_size, b2]; omega⟩ g1 (fun q h => by rw [g3] at h; cases h) (by rw [g2]; exact hkC) (by rw [g2]; exact va_assign hcls) rfl rfl hd fun H' e1 e2 e3 => ?_
  rw [b2, arrV_store] at e1
  rw [b2]
  exact kk ok ι H' lr sr _ (am_Rel_set hr hh ha e2 e3 (am_C_uf e1 q2 ⟨ay, hay, rfl⟩)) hl ht3
theorem am_Rel_new {ι : am_Nm → Option Nat} {H H1 : Heap} {nm : am_Nm} {c1 : am_AC} {lc : List Loc} (hG : G.2.2.2.2.2.1 < G.2.1.size) (hr : am_Rel G X ι h H lc) (hn : h nm = none) (hs : nm ≠ am_scr) (hz : H1.size = H.size + 1) (ho : ∀ b, b < H.size → H1[b]? = H[b]?) (hc : ∀ κ : am_Nm → Option Nat, am_le ι κ → κ nm = some H.size → am_C G κ c1 H.size H1) : ∃ κ : am_Nm → Option Nat, am_le ι κ ∧ κ nm = some H.size ∧ am_Rel G X κ (am_up h nm c1) H1 lc := by
  obtain ⟨p, e, R, s, m, args, below, meth, c, ι0⟩ := X
  obtain ⟨r1, r2, r3, r4, r5⟩ := hr
  obtain ⟨κ, k1, k2, k3⟩ := am_H_new r1 r2 hG hn hs hz ho hc
  exact ⟨κ, k1, k2, k3, ⟨by have := r2.1; omega, fun x hx => (ho x (Nat.lt_of_lt_of_le hx r2.1)).trans (r2.2 x hx)⟩, by omega, r4, am_le_tr r5 k1⟩
/-- a field's first value -/
def am_df (t : FieldType) : am_AV := match t with
  | .object _ => am_N
  | .array _ => am_N
  | _ => am_I 0
def am_dfs (ci N : Nat) : List am_AV := (List.range N).map fun j => am_df (am_fty ci j)
def am_okt (t : FieldType) : Bool := match t with
  | .int => true
  | .boolean => true
  | .object _ => true
  | .array _ => true
  | _ => false
theorem am_df_of {ι : am_Nm → Option Nat} {t : FieldType} (h : am_okt t = true) : am_V ι (am_df t) (defaultValue t) := by
  cases t <;> first | rfl | (exact absurd h (by decide))
theorem am_okts {ci : Nat} {r : vw_C} (h : vwCl[ci]? = some r) : ∀ j, j < r.2.2 → am_okt (am_fty ci j) = true := by
  match ci, h with
  | 0, h => cases h; decide +kernel
  | 1, h => cases h; decide +kernel
  | 2, h => cases h; decide +kernel
  | 3, h => cases h; decide +kernel
  | 4, h => cases h; decide +kernel
  | 5, h => cases h; decide +kernel
  | 6, h => cases h; decide +kernel
  | 7, h => cases h; decide +kernel
  | 8, h => cases h; decide +kernel
  | 9, h => cases h; decide +kernel
  | ci + 10, h => simp [vwCl] at h
/-- a class's link, for 'new' -/
def am_cl (own : String) (idx ci N : Nat) : Prop := ∃ r, vwCl[ci]? = some r ∧ r.2.2 = N ∧ Cond.classLink own idx r.1 ∈ am_uw ∧ Cond.instantiable r.1 N ∈ am_uw ∧ Cond.initialized r.1 ∈ am_uw
theorem am_new {idx ci N : Nat} (nm : am_Nm) (hd : am_d Y.1 pc (.new idx) 3 q) (hf : am_cl Y.2.2.1 idx ci N) (hn : h nm = none) (hs : nm ≠ am_scr) (hk : k + 1 ≤ mc) (hms : n + N ≤ ms) (kk : am_W G X Y d mc ms Q q ls (am_R nm :: st) (am_up h nm (am_O ci (am_dfs ci N))) (k + 1) (n + N)) : am_W G X Y d mc ms Q pc ls st h k n := by
  obtain ⟨p, e, R, s, m, args, below, meth, c, ι0⟩ := X
  obtain ⟨hd, rfl⟩ := hd
  intro ok ι H lr sr lc hr hl ht
  have ok' := ok
  obtain ⟨hx, hb, -, hown, hts, -, -, -, -, -, -, hRc, hRs, -, hK⟩ := ok
  obtain ⟨r, hr1, rfl, w1, w2, w3⟩ := hf
  obtain ⟨c1, c2, c3, c4⟩ := am_cls hr1
  have hKn := hK.1.1 ci _ hr1
  refine W.newcK hx hb hown (hts _ w1) (hts _ w2) (hts _ w3) rfl hd (by rw [hRc]; exact hk) (by rw [hRs]; exact hms) hKn.2.1 rfl fun H1 kC hkC e1 z1 o1 => ?_
  have hob := u_born (am_fty ci) hts c1 hKn hkC e1 c2
  obtain ⟨κ, k1, k2, k3⟩ := am_Rel_new (c1 := am_O ci (am_dfs ci r.2.2)) hK.2.2.2.2.2.2.2.1 hr hn hs z1 o1 (fun κ _ _ => ⟨r, _, hr1, hob, fun j v hj => by
    have hlt : j < r.2.2 := by
      have := (List.getElem?_eq_some_iff.mp hj).1
      simpa [am_dfs] using this
    simp only [am_dfs, List.getElem?_map, List.getElem?_range hlt, Option.map_some, Option.some.injEq] at hj
    subst hj
    exact am_df_of (am_okts hr1 j hlt)⟩)
  exact kk ok' κ H1 lr _ lc k3 (am_L_le k1 hl) ⟨⟨H.size, k2, rfl⟩, am_T_le k1 ht⟩
/-- new arrays of numbers -/
theorem am_newa {at9 : ArrayType} {kd : Nat} {len : Int} (nm : am_Nm) (hd : am_d Y.1 pc (.newarray at9) 2 q) (hty : newarray.typeOf at9 = am_ty kd) (hw : Cond.arrayClass (am_ty kd) ∈ am_uw) (hkd : kd < 3) (h0 : 0 ≤ len) (h1 : len ≤ 10000) (hn : h nm = none) (hs : nm ≠ am_scr) (hk : k + 1 ≤ mc) (hms : n + len.toNat ≤ ms) (kk : am_W G X Y d mc ms Q q ls (am_R nm :: st) (am_up h nm (am_A kd len.toNat (fun _ => if kd = 2 then am_J 0 else am_I 0))) (k + 1) (n + len.toNat)) : am_W G X Y d mc ms Q pc ls (am_I len :: st) h k n := by
  obtain ⟨p, e, R, s, m, args, below, meth, c, ι0⟩ := X
  obtain ⟨hd, rfl⟩ := hd
  intro ok ι H lr sr lc hr hl ht
  obtain ⟨w, sr, rfl, hw1, ht1⟩ := am_T_1 ht
  cases hw1
  have ok' := ok
  obtain ⟨hx, hb, -, hown, hts, -, -, -, -, -, -, hRc, hRs, -, hK⟩ := ok
  have hrl : am_r len := ⟨by omega, by omega⟩
  have hc : (Int32.ofInt len).toNatClampNeg = len.toNat := by show (Int32.ofInt len).toInt.toNat = len.toNat; rw [am_toInt hrl]
  have hneg : ¬ Int32.ofInt len < 0 := by rw [am_z, am_lt hrl am_r0]; omega
  refine va_newaK hx hb (by rw [hty]; exact hts _ hw) rfl hd rfl hneg hc ?_ (by rw [hRc]; exact hk) (by rw [hRs]; exact hms) rfl fun H1 cA e1 z1 o1 hAr hNm => ?_
  · rw [hty]
    rcases (show kd = 0 ∨ kd = 1 ∨ kd = 2 by omega) with rfl | rfl | rfl
    · show len.toNat * 4 ≤ _; omega
    · show len.toNat * 1 ≤ _; omega
    · show len.toNat * 8 ≤ _; omega
  have hcA : cA = G.2.2.2.2.1 kd := by
    have h2 := (hK.1.2 kd _ (am_tys_at G kd (by omega))).2
    rw [hty] at hNm
    rcases (show kd = 0 ∨ kd = 1 ∨ kd = 2 by omega) with rfl | rfl | rfl <;> exact Option.some.inj (hNm.symm.trans h2)
  subst hcA
  obtain ⟨κ, k1, k2, k3⟩ := am_Rel_new (c1 := am_A kd len.toNat (fun _ => if kd = 2 then am_J 0 else am_I 0)) hK.2.2.2.2.2.2.2.1 hr hn hs z1 o1 (fun κ _ _ => ⟨_, e1, fun j _ => by
    rw [hty]
    rcases (show kd = 0 ∨ kd = 1 ∨ kd = 2 by omega) with rfl | rfl | rfl <;> rfl⟩)
  exact kk ok' κ H1 lr _ lc k3 (am_L_le k1 hl) ⟨⟨H.size, k2, rfl⟩, am_T_le k1 ht1⟩
/-- new arrays of references -/
theorem am_anewa {idx kd : Nat} {C : String} {len : Int} (nm : am_Nm) (hd : am_d Y.1 pc (.anewarray idx) 3 q) (hty : am_ty kd = .object C) (hw : Cond.classLink Y.2.2.1 idx C ∈ am_uw) (hov : Cond.arrayOver (.object C) ∈ lw_tbl) (hkd : kd < 8) (h0 : 0 ≤ len) (h1 : len ≤ 10000) (hn : h nm = none) (hs : nm ≠ am_scr) (hk : k + 1 ≤ mc) (hms : n + len.toNat ≤ ms) (kk : am_W G X Y d mc ms Q q ls (am_R nm :: st) (am_up h nm (am_A kd len.toNat (fun _ => am_N))) (k + 1) (n + len.toNat)) : am_W G X Y d mc ms Q pc ls (am_I len :: st) h k n := by
  obtain ⟨p, e, R, s, m, args, below, meth, c, ι0⟩ := X
  obtain ⟨hd, rfl⟩ := hd
  intro ok ι H lr sr lc hr hl ht
  obtain ⟨w, sr, rfl, hw1, ht1⟩ := am_T_1 ht
  cases hw1
  have ok' := ok
  obtain ⟨hx, hb, -, hown, hts, -, -, -, -, -, -, hRc, hRs, -, hK⟩ := ok
  have hrl : am_r len := ⟨by omega, by omega⟩
  have hc : (Int32.ofInt len).toNatClampNeg = len.toNat := by show (Int32.ofInt len).toInt.toNat = len.toNat; rw [am_toInt hrl]
  have hneg : ¬ Int32.ofInt len < 0 := by rw [am_z, am_lt hrl am_r0]; omega
  refine W.anew hx hb hown (hts _ hw) (hK.2.2.2.2.1 C hov).use rfl hd rfl hneg (by rw [hc]; omega) (by rw [hRc]; exact hk) (by rw [hRs, hc]; exact hms) fun cA kA comp g1 g2 g3 g4 => ?_
  have hcA : cA = G.2.2.2.2.1 kd := by
    have h2 := (hK.1.2 kd _ (am_tys_at G kd hkd)).2
    rw [hty] at h2
    obtain ⟨kA', comp', x1, x2, x3, x4⟩ := h2
    exact Option.some.inj (g1.symm.trans x4)
  subst hcA
  rw [hc]
  obtain ⟨κ, k1, k2, k3⟩ := am_Rel_new (c1 := am_A kd len.toNat (fun _ => am_N)) (H1 := H.push { cls := G.2.2.2.2.1 kd, slots := Array.replicate len.toNat .null, vm := .none }) hK.2.2.2.2.2.2.2.1 hr hn hs (by simp) (fun b hb => by simp [Array.getElem?_push, Nat.ne_of_lt hb]) (fun κ _ _ => ⟨fun _ => .null, by
    rw [← arrV_new]; simp, fun j _ => rfl⟩)
  exact kk ok' κ _ lr _ lc k3 (am_L_le k1 hl) ⟨⟨H.size, k2, rfl⟩, am_T_le k1 ht1⟩
end AmHeap
end
section
/-! contracts, calls, throws, returns -/
/-- a result: a value or nothing; or an exception's number -/
abbrev am_Re : Type := Option am_AV ⊕ Nat
def am_VO (κ : am_Nm → Option Nat) (r : Option am_AV) (w : Option Value) : Prop := match r, w with
  | none, none => True
  | some v, some w => am_V κ v w
  | _, _ => False
def am_Pc (G : am_G) (ι : am_Nm → Option Nat) (av : List Value) (h : am_AH) : Array Value → State → Prop := fun a U => a = av.toArray ∧ am_H G ι h U.heap ∧ am_old G U.heap ∧ am_K G U
def am_Qc (G : am_G) (ι : am_Nm → Option Nat) (Q : am_Re → am_AH → Prop) : Array Value → State → Outcome → State → Prop := fun _ st o t => ∃ (r : Option am_AV) (w : Option Value) (κ : am_Nm → Option Nat) (h' : am_AH), o = .returned w ∧ am_VO κ r w ∧ am_le ι κ ∧ am_H G κ h' t.heap ∧ am_old G t.heap ∧ st.heap.size ≤ t.heap.size ∧ Q (.inl r) h'
def am_XC (G : am_G) (ι : am_Nm → Option Nat) (Q : am_Re → am_AH → Prop) : String → State → State → Prop := fun E st t => ∃ (x : Nat) (κ : am_Nm → Option Nat) (h' : am_AH), E = am_ex x ∧ am_le ι κ ∧ am_H G κ h' t.heap ∧ am_old G t.heap ∧ st.heap.size ≤ t.heap.size ∧ Q (.inr x) h'
/-- a method's contract: from a heap h and arguments, what it answers or throws, and the heap then; depth, cells and slots of room -/
def am_Con (G : am_G) (y : MethodName) (w0 : Cond) (d mc ms : Nat) (as : List am_AV) (h : am_AH) (Q : am_Re → am_AH → Prop) : Prop :=
  ∀ (ι : am_Nm → Option Nat) (av : List Value), am_T ι as av → vx_Met G.1 y (w0 :: am_uw) (am_rm d mc ms) (am_Pc G ι av h) (am_Qc G ι Q) (am_XC G ι Q) mc ms (am_free G)
def am_end (G : am_G) (X : am_X) (mc ms : Nat) (Q : am_Re → am_AH → Prop) : State → Prop := match X with
  | (_, _, _, s, _, args, below, _, _, ι0) => vx_MQ below (am_Qc G ι0 Q) (am_XC G ι0 Q) args s mc ms (am_free G)
theorem am_Con_mono {G : am_G} {y : MethodName} {w0 : Cond} {d mc ms : Nat} {as : List am_AV} {h : am_AH} {Q Q' : am_Re → am_AH → Prop} (hC : am_Con G y w0 d mc ms as h Q) (hq : ∀ r h', Q r h' → Q' r h') : am_Con G y w0 d mc ms as h Q' := by
  intro ι av ht
  have hM := hC ι av ht
  intro p e ha hc hk s m a below hf happ hP hK
  obtain ⟨n, o, g1, g2, g3, hz⟩ := hM p e ha hc hk s m a below hf happ hP hK
  refine ⟨n, o, g1, g2, g3, ?_⟩
  rcases hz with ⟨⟨r, w, κ, h', z1, z2, z3, z4, z5, z6, z7⟩, z8⟩ | ⟨q, z1, E, ce, L, ⟨x, κ, h', y1, y2, y3, y4, y5, y6⟩, z2⟩
  · exact Or.inl ⟨⟨r, w, κ, h', z1, z2, z3, z4, z5, z6, hq _ _ z7⟩, z8⟩
  · exact Or.inr ⟨q, z1, E, ce, L, ⟨x, κ, h', y1, y2, y3, y4, y5, hq _ _ y6⟩, z2⟩
theorem am_blind {G : am_G} {ι : am_Nm → Option Nat} {av : List Value} {h : am_AH} : FrameBlind (am_Pc G ι av h) := fun _ U g mk q => ⟨q.1, q.2.1, q.2.2.1, am_K_same (s := U) (U := U.calling g mk _) rfl q.2.2.2⟩
def am_nolong (v : am_AV) : Bool := match v with
  | .inr (.inl _) => false
  | _ => true
theorem am_cat {ι : am_Nm → Option Nat} {v : am_AV} {w : Value} (hv : am_V ι v w) (hn : am_nolong v = true) : w.category = 1 := by
  match v, hv, hn with
  | .inl x, hv, _ => cases hv; rfl
  | .inr (.inr none), hv, _ => cases hv; rfl
  | .inr (.inr (some y)), hv, _ => obtain ⟨a, -, rfl⟩ := hv; rfl
  | .inr (.inl x), _, hn => simp [am_nolong] at hn
theorem am_T_len {ι : am_Nm → Option Nat} : ∀ {vs : List am_AV} {ws : List Value}, am_T ι vs ws → ws.length = vs.length
  | [], [], _ => rfl
  | _ :: _, _ :: _, ⟨_, b⟩ => by simp [am_T_len b]
  | [], _ :: _, q => q.elim
  | _ :: _, [], q => q.elim
theorem am_T_at {ι : am_Nm → Option Nat} : ∀ {vs : List am_AV} {ws : List Value}, am_T ι vs ws → ∀ (i : Nat) (v : am_AV), vs[i]? = some v → ∃ w, ws[i]? = some w ∧ am_V ι v w
  | [], [], _, i, v, h => by simp at h
  | _ :: _, w :: _, ⟨a, b⟩, 0, v, h => by simp at h; subst h; exact ⟨w, rfl, a⟩
  | _ :: _, _ :: _, ⟨_, b⟩, i + 1, v, h => by simpa using am_T_at b i v (by simpa using h)
  | [], _ :: _, q, _, _, _ => q.elim
  | _ :: _, [], q, _, _, _ => q.elim
theorem am_sl : ∀ {vs : List Value}, (∀ v ∈ vs, v.category = 1) → lg_sl vs = vs.map Slot.val
  | [], _ => rfl
  | v :: vs, h => by
    have h1 := h v List.mem_cons_self
    have h2 := am_sl (vs := vs) fun w hw => h w (List.mem_cons_of_mem _ hw)
    simp only [lg_sl, List.flatMap_cons, h1] at h2 ⊢
    simp [h2]
theorem am_L_entry {ι : am_Nm → Option Nat} {as : List am_AV} {av : List Value} {nL : Nat} (ht : am_T ι as av) (hn : ∀ v ∈ as, am_nolong v = true) (hl : as.length ≤ nL) :
    am_L nL ι (as.map some ++ List.replicate (nL - as.length) none) ((lg_sl av ++ List.replicate (nL - (lg_sl av).length) Slot.unset).toArray) := by
  have hc : ∀ w ∈ av, w.category = 1 := by
    intro w hw
    obtain ⟨i, hi⟩ := List.getElem?_of_mem hw
    have hlt : i < as.length := by
      have := (List.getElem?_eq_some_iff.mp hi).1
      rw [am_T_len ht] at this
      exact this
    obtain ⟨w', h1, h2⟩ := am_T_at ht i as[i] (List.getElem?_eq_getElem hlt)
    rw [hi] at h1
    cases h1
    exact am_cat h2 (hn _ (List.getElem_mem hlt))
  have hlen : (lg_sl av).length = as.length := by rw [am_sl hc, List.length_map, am_T_len ht]
  have he := lv_entry av (n := nL) (by rw [hlen]; exact hl)
  refine ⟨he.1, he.2.1, by simp; omega, fun i v hi => ?_⟩
  by_cases hlt : i < as.length
  · rw [List.getElem?_append_left (by simpa using hlt), List.getElem?_map] at hi
    obtain ⟨v', h1, h2⟩ := Option.map_eq_some_iff.mp hi
    cases h2
    obtain ⟨w, h3, h4⟩ := am_T_at ht i v h1
    refine ⟨w, ?_, h4, hc w (List.mem_of_getElem? h3)⟩
    rw [List.getElem?_toArray, am_sl hc, List.getElem?_append_left (by simpa [am_T_len ht] using hlt), List.getElem?_map, h3]
    rfl
  · rw [List.getElem?_append_right (by simpa using hlt)] at hi
    have := List.mem_of_getElem? hi
    simp at this
theorem am_of {G : am_G} {y : MethodName} {Y : am_Y} {d mc ms : Nat} {as : List am_AV} {h : am_AH} {Q : am_Re → am_AH → Prop} (hy : plainName y.cls = true) (hown : Y.2.2.1 = y.cls) (hini : Y.2.2.2.2.1 = true → y.name = "<init>") (hhh : Y.2.2.2.2.2 = []) (hn : ∀ v ∈ as, am_nolong v = true) (hl : as.length ≤ Y.2.1)
    (body : ∀ X : am_X, am_W G X Y d mc ms (am_end G X mc ms Q) 0 (as.map some ++ List.replicate (Y.2.1 - as.length) none) [] h 0 0) : am_Con G y (.code y Y.1 Y.2.1 Y.2.2.2.1) d mc ms as h Q := by
  intro ι av ht
  refine vx_ofW hy rfl ?_
  intro p e s m args below meth c s₁ B hml hT hP
  obtain ⟨rfl, hH, hold, hK⟩ := hP
  have hw := atoms_spec (ws := Cond.code y Y.1 Y.2.1 Y.2.2.2.1 :: am_uw) B.pre
  rw [lg_entry_eq]
  refine body (p, e, _, s, m, av.toArray, below, meth, c, ι) ⟨B.exec, B.bytes, hml, ?_, fun w hw' => hw w (List.mem_cons_of_mem _ hw'), B.notSynchronized, B.returns, fun z => (name_of_methodNamed B.named B.method).1.trans (hini z), ?_, rfl, Nat.le_refl _, rfl, rfl, hold, hK⟩ ι s.heap _ [] [] ⟨hH, hold, Nat.le_refl _, fun z hz => (by cases hz), am_le_rf⟩ (am_L_entry ht hn hl) trivial
  · rw [hown]; exact findClass_of_methodNamed B.named
  · rw [hhh]
    cases ht9 : c.exceptionTable.toList with
    | nil => rfl
    | cons x xs => exact (hT x (by rw [ht9]; exact List.mem_cons_self)).elim
theorem am_ofH {G : am_G} {y : MethodName} {Y : am_Y} {d mc ms : Nat} {as : List am_AV} {h : am_AH} {Q : am_Re → am_AH → Prop} (hy : plainName y.cls = true) (hown : Y.2.2.1 = y.cls) (hini : Y.2.2.2.2.1 = true → y.name = "<init>") (hn : ∀ v ∈ as, am_nolong v = true) (hl : as.length ≤ Y.2.1)
    (body : ∀ X : am_X, am_W G X Y d mc ms (am_end G X mc ms Q) 0 (as.map some ++ List.replicate (Y.2.1 - as.length) none) [] h 0 0) : am_Con G y (.codeWith y Y.1 Y.2.1 Y.2.2.2.1 Y.2.2.2.2.2) d mc ms as h Q := by
  intro ι av ht
  refine vx_ofWH hy rfl ?_
  intro p e s m args below meth c s₁ B hml hP
  obtain ⟨rfl, hH, hold, hK⟩ := hP
  have hw := atoms_spec (ws := Cond.codeWith y Y.1 Y.2.1 Y.2.2.2.1 Y.2.2.2.2.2 :: am_uw) B.pre
  rw [lg_entry_eq]
  refine body (p, e, _, s, m, av.toArray, below, meth, c, ι) ⟨B.exec, B.bytes, hml, ?_, fun w hw' => hw w (List.mem_cons_of_mem _ hw'), B.notSynchronized, B.returns, fun z => (name_of_methodNamed B.named B.method).1.trans (hini z), vx_table (x := y) B (hw _ List.mem_cons_self), rfl, Nat.le_refl _, rfl, rfl, hold, hK⟩ ι s.heap _ [] [] ⟨hH, hold, Nat.le_refl _, fun z hz => (by cases hz), am_le_rf⟩ (am_L_entry ht hn hl) trivial
  rw [hown]; exact findClass_of_methodNamed B.named
section AmEnds
variable {G : am_G} {X : am_X} {Y : am_Y} {d mc ms : Nat} {Q : am_Re → am_AH → Prop} {Qs : State → Prop} {pc q t : Nat} {ls : List (Option am_AV)} {st : List am_AV} {h : am_AH} {k n : Nat}
theorem am_ireturn {x : Int} {ty : FieldType} (hd : am_d Y.1 pc .ireturn 1 q) (hret : Y.2.2.2.1 = some ty) (hty : am_fit ty (am_I x)) (hk : k ≤ mc) (hn : n ≤ ms) (hq : Q (.inl (some (am_I x))) h) : am_W G X Y d mc ms (am_end G X mc ms Q) pc ls [am_I x] h k n := by
  obtain ⟨p, e, R, s, m, args, below, meth, c, ι0⟩ := X
  obtain ⟨hd, rfl⟩ := hd
  intro ok ι H lr sr lc hr hl ht
  obtain ⟨w, sr, rfl, hw, ht1⟩ := am_T_1 ht
  have hw' := hw
  cases hw
  cases sr with
  | cons a b => exact ht1.elim
  | nil =>
  obtain ⟨hx, hb, -, hown, hts, hlk, hre, -⟩ := ok
  refine W.widen hk hn (vx_ret ?_)
  exact W.zret hx hb (hre.trans hret) (am_fit_of hty hw').1 (fun t hT hW => ⟨some (am_I x), _, ι, h, rfl, rfl, hr.2.2.2.2, by rw [hT]; exact hr.1, by rw [hT]; exact hr.2.1, by rw [hT]; exact hr.2.2.1, hq⟩) hr.2.2.2.1 hd hlk
theorem am_areturn {x : Option am_Nm} {C : String} (hd : am_d Y.1 pc .areturn 1 q) (hret : Y.2.2.2.1 = some (.object C)) (hk : k ≤ mc) (hn : n ≤ ms) (hq : Q (.inl (some (Sum.inr (Sum.inr x)))) h) : am_W G X Y d mc ms (am_end G X mc ms Q) pc ls [Sum.inr (Sum.inr x)] h k n := by
  obtain ⟨p, e, R, s, m, args, below, meth, c, ι0⟩ := X
  obtain ⟨hd, rfl⟩ := hd
  intro ok ι H lr sr lc hr hl ht
  obtain ⟨w, sr, rfl, hw, ht1⟩ := am_T_1 ht
  cases sr with
  | cons a b => exact ht1.elim
  | nil =>
  obtain ⟨hx, hb, -, hown, hts, hlk, hre, -⟩ := ok
  refine W.widen hk hn (vx_ret ?_)
  refine W.aret hx hb (hre.trans hret) (Or.inl ⟨_, rfl⟩) ?_ (fun t hT hW => ⟨some (Sum.inr (Sum.inr x)), _, ι, h, rfl, hw, hr.2.2.2.2, by rw [hT]; exact hr.1, by rw [hT]; exact hr.2.1, by rw [hT]; exact hr.2.2.1, hq⟩) hr.2.2.2.1 hd hlk
  cases x with
  | none => exact Or.inl hw
  | some z => obtain ⟨a, -, rfl⟩ := hw; exact Or.inr ⟨a, rfl⟩
theorem am_return (hd : am_d Y.1 pc .return_ 1 q) (hret : Y.2.2.2.1 = none) (hk : k ≤ mc) (hn : n ≤ ms) (hq : Q (.inl none) h) : am_W G X Y d mc ms (am_end G X mc ms Q) pc ls [] h k n := by
  obtain ⟨p, e, R, s, m, args, below, meth, c, ι0⟩ := X
  obtain ⟨hd, rfl⟩ := hd
  intro ok ι H lr sr lc hr hl ht
  cases sr with
  | cons a b => exact ht.elim
  | nil =>
  obtain ⟨hx, hb, -, hown, hts, hlk, hre, -⟩ := ok
  refine W.widen hk hn (vx_ret ?_)
  exact W.vret hx hb (hre.trans hret) (fun t hT hW => ⟨none, _, ι, h, rfl, trivial, hr.2.2.2.2, by rw [hT]; exact hr.1, by rw [hT]; exact hr.2.1, by rw [hT]; exact hr.2.2.1, hq⟩) hr.2.2.2.1 hd hlk
/-- thrown here, and what becomes of it -/
def am_WX (G : am_G) (X : am_X) (Y : am_Y) (d mc ms : Nat) (Qs : State → Prop) (pc : Nat) (ls : List (Option am_AV)) (h : am_AH) (k n x : Nat) : Prop := match X with
  | (p, e, R, s, m, args, below, meth, c, ι0) => am_ok G (p, e, R, s, m, args, below, meth, c, ι0) Y d mc ms → ∀ (ι : am_Nm → Option Nat) (H : Heap) (lr : Array Slot) (sr : List Value) (lc : List Loc) (q : Addr) (ce : Cell), am_Rel G (p, e, R, s, m, args, below, meth, c, ι0) ι h H lc → am_L Y.2.1 ι ls lr → H[q]? = some ce → ce.vm = .none → s.vm.findClass (am_ex x) = some ce.cls → vx_W p G.1 e R s m args below meth c H lc k n Qs (F0 m pc lr sr) q
theorem am_out {x : Nat} (hh : Y.2.2.2.2.2 = []) (hk : k ≤ mc) (hn : n ≤ ms) (hq : Q (.inr x) h) : am_WX G X Y d mc ms (am_end G X mc ms Q) pc ls h k n x := by
  obtain ⟨p, e, R, s, m, args, below, meth, c, ι0⟩ := X
  intro ok ι H lr sr lc q ce hr hl h1 h2 h3
  have htb : c.exceptionTable.toList = tableOf Y.2.2.2.2.2 := ok.2.2.2.2.2.2.2.2.1
  refine vx_out (fun z hz => ?_) ok.2.2.2.2.2.1 h1 h2 h3 (fun t hT _ => ⟨x, ι, h, rfl, hr.2.2.2.2, by rw [hT]; exact hr.1, by rw [hT]; exact hr.2.1, by rw [hT]; exact hr.2.2.1, hq⟩) hr.2.2.2.1 hk hn
  rw [htb, hh] at hz
  cases hz
theorem am_H_ext {ι : am_Nm → Option Nat} {H H1 : Heap} (q : am_H G ι h H) (hold : am_old G H) (hsb : G.2.2.2.2.2.1 < G.2.1.size) (hz : H.size ≤ H1.size) (ho : ∀ b, b < H.size → H1[b]? = H[b]?) : am_H G ι h H1 ∧ am_old G H1 := by
  obtain ⟨q1, q2, q3, q4, q5⟩ := q
  refine ⟨⟨fun x c hx => ?_, fun x a hx => ?_, q3, q4, q5⟩, Nat.le_trans hold.1 hz, fun x hx => (ho x (Nat.lt_of_lt_of_le hx hold.1)).trans (hold.2 x hx)⟩
  · obtain ⟨a, h1, h2⟩ := q1 x c hx
    exact ⟨a, h1, am_C_le am_le_rf (ho a (am_C_lt h2)) h2⟩
  · rcases q2 x a hx with z | ⟨z1, z2, z3, z4⟩
    · exact Or.inl z
    · exact Or.inr ⟨z1, z2, by omega, z4⟩
/-- the words of a throw, by the pool's numbers of the class and its constructor -/
def am_thr (own : String) (ik ic x : Nat) : Prop := Cond.classLink own ik (am_ex x) ∈ am_uw ∧ Cond.initialized (am_ex x) ∈ am_uw ∧ (∀ w ∈ vx_atS own ic (am_ex x) ["java/lang/RuntimeException", "java/lang/Exception"], w ∈ am_uw ∨ (w ∈ lw_tbl ∧ am_mv w = true)) ∧ (∀ w ∈ Cond.classLink own ik (am_ex x) :: Cond.initialized (am_ex x) :: vx_atS own ic (am_ex x) ["java/lang/RuntimeException", "java/lang/Exception"], vx_ot w = true) ∧ Bundle.fit (am_ex x) = true
theorem am_mvt {w : Cond} (h : am_mv w = true) : w.onTables = true := by
  cases w <;> first | rfl | (exact absurd h (by simp [am_mv]))
theorem am_thr_at {own : String} {ik ic x : Nat} (h : am_thr own ik ic x) {s : State} {args : Array Value} (hts : ∀ w ∈ am_uw, w.before args s = true) (hmv : ∀ w ∈ lw_tbl, am_mv w = true → va_Nw w s) : ∀ w ∈ vx_atS own ic (am_ex x) ["java/lang/RuntimeException", "java/lang/Exception"], w.before args s = true := by
  intro w hw
  rcases h.2.2.1 w hw with z | ⟨z1, z2⟩
  · exact hts w z
  · exact va_Nw.use (am_mvt z2) (hmv w z1 z2)
theorem am_sum8 (ι : am_Nm → Option Nat) : ∀ {vs : List am_AV} {ws : List Value}, am_T ι vs ws → vs.length ≤ 4 → (ws.map fun v => v.category).sum ≤ 8 := by
  have key : ∀ {vs : List am_AV} {ws : List Value}, am_T ι vs ws → (ws.map fun v => v.category).sum ≤ 2 * vs.length := by
    intro vs
    induction vs with
    | nil =>
      intro ws ht
      cases ws with
      | nil => exact Nat.le_refl _
      | cons a b => exact ht.elim
    | cons v vs ih =>
      intro ws ht
      obtain ⟨w, ws, rfl, h1, h2⟩ := am_T_1 ht
      have := ih h2
      have h3 : w.category ≤ 2 := by rcases lv_cat w with z | z <;> omega
      simp only [List.map_cons, List.sum_cons, List.length_cons]
      omega
  intro vs ws ht hl
  have := key ht
  omega
theorem am_throw {ik is ic x q0 q1 q2 q3 q4 : Nat} {tx : String} (hth : am_thr Y.2.2.1 ik ic x) (hown : Y.2.2.1 = RX8) (htx : Cond.stringRef RX8 is tx ∈ lw_tbl) (hd6 : 6 ≤ d) (hh : Y.2.2.2.2.2 = []) (hst : st.length ≤ 4)
    (d0 : am_d Y.1 pc (.new ik) 3 q0) (d3 : am_d Y.1 q0 .dup 1 q1) (d4 : am_d Y.1 q1 (.ldc is) 2 q2) (d6 : am_d Y.1 q2 (.invokespecial ic) 3 q3) (d9 : am_d Y.1 q3 .athrow 1 q4) (hk : k + 1 ≤ mc) (hn : n + 6 ≤ ms) (hq : Q (.inr x) h) : am_W G X Y d mc ms (am_end G X mc ms Q) pc ls st h k n := by
  obtain ⟨p, e, R, s, m, args, below, meth, c, ι0⟩ := X
  obtain ⟨d0, rfl⟩ := d0
  obtain ⟨d3, rfl⟩ := d3
  obtain ⟨d4, rfl⟩ := d4
  obtain ⟨d6, rfl⟩ := d6
  obtain ⟨d9, rfl⟩ := d9
  intro ok ι H lr sr lc hr hl ht
  obtain ⟨hx, hb, hml, ho, hts, hlk, hre, -, htb, hRf, hRl, hRc, hRs, hold, hK⟩ := ok
  obtain ⟨hKa, ⟨hU, hN⟩, hmv, hstr, -, -, -, hsb, htr⟩ := hK
  obtain ⟨sa, hsa⟩ := hstr is tx htx
  have hAs : ∀ a : Nat, a < G.2.1.size → ¬ am_free G a → s.heap[a]? = G.2.1[a]? := fun a ha _ => hold.2 a ha
  have hsum := am_sum8 ι ht hst
  refine vx_throwS (A := am_free G) hx hb htr ho hth.2.2.2.2 (by decide +kernel) (hts _ hth.1) (hts _ hth.2.1) (by rw [hown]; exact hsa) (am_thr_at hth hts hmv) hth.2.2.2.1 (hU.kept hAs) (hN.kept hAs) ⟨hr.2.2.1, fun a ha hf => ?_, hr.2.2.2.1⟩ (by rw [hl.1, hml]) d0 d3 d4 d6 d9 (fun z hz => ?_) (by rw [hRf]; show 2 + 3 < d; omega) (by show _ + (13 * (2 + 1) + 43) ≤ _; omega) (by rw [hRc]; exact hk) (by rw [hRs]; exact hn) hlk ?_ hr.2.2.2.1 hk hn
  · have ha2 : a < G.2.1.size := by
      by_cases z : a < G.2.1.size
      · exact z
      · exact absurd (show G.2.1.size ≤ a by omega) hf
    rw [hr.2.1.2 a ha2, hold.2 a ha2]
  · rw [htb, hh] at hz
    cases hz
  · intro t hA hz ho
    obtain ⟨g1, g2⟩ := am_H_ext hr.1 hr.2.1 hsb hz ho
    exact ⟨x, ι, h, rfl, hr.2.2.2.2, g1, g2, Nat.le_trans hr.2.2.1 hz, hq⟩
theorem am_throwW {ik is ic x q0 q1 q2 q3 q4 : Nat} {tx : String} (hth : am_thr Y.2.2.1 ik ic x) (hown : Y.2.2.1 = RX8) (htx : Cond.stringRef RX8 is tx ∈ lw_tbl) (hd6 : 6 ≤ d) (hh : Y.2.2.2.2.2 = []) (hst : st.length ≤ 4)
    (d0 : am_d Y.1 pc (.new ik) 3 q0) (d3 : am_d Y.1 q0 .dup 1 q1) (d4 : am_d Y.1 q1 (.ldc_w is) 3 q2) (d6 : am_d Y.1 q2 (.invokespecial ic) 3 q3) (d9 : am_d Y.1 q3 .athrow 1 q4) (hk : k + 1 ≤ mc) (hn : n + 6 ≤ ms) (hq : Q (.inr x) h) : am_W G X Y d mc ms (am_end G X mc ms Q) pc ls st h k n := by
  obtain ⟨p, e, R, s, m, args, below, meth, c, ι0⟩ := X
  obtain ⟨d0, rfl⟩ := d0
  obtain ⟨d3, rfl⟩ := d3
  obtain ⟨d4, rfl⟩ := d4
  obtain ⟨d6, rfl⟩ := d6
  obtain ⟨d9, rfl⟩ := d9
  intro ok ι H lr sr lc hr hl ht
  obtain ⟨hx, hb, hml, ho, hts, hlk, hre, -, htb, hRf, hRl, hRc, hRs, hold, hK⟩ := ok
  obtain ⟨hKa, ⟨hU, hN⟩, hmv, hstr, -, -, -, hsb, htr⟩ := hK
  obtain ⟨sa, hsa⟩ := hstr is tx htx
  have hAs : ∀ a : Nat, a < G.2.1.size → ¬ am_free G a → s.heap[a]? = G.2.1[a]? := fun a ha _ => hold.2 a ha
  have hsum := am_sum8 ι ht hst
  refine vx_throwSW (A := am_free G) hx hb htr ho hth.2.2.2.2 (by decide +kernel) (hts _ hth.1) (hts _ hth.2.1) (by rw [hown]; exact hsa) (am_thr_at hth hts hmv) hth.2.2.2.1 (hU.kept hAs) (hN.kept hAs) ⟨hr.2.2.1, fun a ha hf => ?_, hr.2.2.2.1⟩ (by rw [hl.1, hml]) d0 d3 d4 d6 d9 (fun z hz => ?_) (by rw [hRf]; show 2 + 3 < d; omega) (by show _ + (13 * (2 + 1) + 43) ≤ _; omega) (by rw [hRc]; exact hk) (by rw [hRs]; exact hn) hlk ?_ hr.2.2.2.1 hk hn
  · have ha2 : a < G.2.1.size := by
      by_cases z : a < G.2.1.size
      · exact z
      · exact absurd (show G.2.1.size ≤ a by omega) hf
    rw [hr.2.1.2 a ha2, hold.2 a ha2]
  · rw [htb, hh] at hz
    cases hz
  · intro t hA hz ho
    obtain ⟨g1, g2⟩ := am_H_ext hr.1 hr.2.1 hsb hz ho
    exact ⟨x, ι, h, rfl, hr.2.2.2.2, g1, g2, Nat.le_trans hr.2.2.1 hz, hq⟩
/-- behind a call -/
theorem am_run {p : Program} {e : Env} {R : Room} {s : State} {m : MethodId} {args : Array Value} {below : List Frame} {meth : Method} {c : Code} {ι0 ι : am_Nm → Option Nat} {H : Heap} {lr : Array Slot} {sr0 sr : List Value} {lc : List Loc} {mc' ms' : Nat} {a9 : Array Value} {Q' : am_Re → am_AH → Prop}
    (ok : am_ok G (p, e, R, s, m, args, below, meth, c, ι0) Y d mc ms) (hrun : vx_Run p G.1 e R s m args below meth c H lc k n mc' ms' (F0 m pc lr sr0) sr (am_Qc G ι Q' a9) (am_XC G ι Q') (am_free G))
    (hr : am_Rel G (p, e, R, s, m, args, below, meth, c, ι0) ι h H lc) (hl : am_L Y.2.1 ι ls lr) (ht : am_T ι st sr)
    (kk : ∀ r h', Q' (.inl r) h' → am_W G (p, e, R, s, m, args, below, meth, c, ι0) Y d mc ms Qs (pc + 3) ls (r.toList ++ st) h' (k + mc') (n + ms'))
    (kx : ∀ x h', Q' (.inr x) h' → am_WX G (p, e, R, s, m, args, below, meth, c, ι0) Y d mc ms Qs pc ls h' (k + mc') (n + ms') x) : W p G.1 e R s m args below meth c H lc k n Qs (F0 m pc lr sr0) := by
  intro T hT XX
  rcases hrun T hT XX with ⟨v, st₀, t, T', L, h0, X', hL, e1, e2, ⟨r, w, κ, h', z1, z2, z3, z4, z5, z6, z7⟩, go⟩ | ⟨q, st₀, t, T', L, E, ce, h0, X', hL, e1, e2, ⟨x, κ, h', y1, y2, y3, y4, y5, y6⟩, hce, hcv, hcl, go⟩
  · cases z1
    have hrel : am_Rel G (p, e, R, s, m, args, below, meth, c, ι0) κ h' T'.heap (lc ++ L) := ⟨by rw [e1]; exact z4, by rw [e1]; exact z5, by rw [e1]; rw [h0] at z6; exact Nat.le_trans hr.2.2.1 z6, fun z hz => (List.mem_append.mp hz).elim (hr.2.2.2.1 z) (hL z), am_le_tr hr.2.2.2.2 z3⟩
    have hst : am_T κ (r.toList ++ st) (v.toList ++ sr) := by
      match r, v, z2 with
      | none, none, _ => exact am_T_le z3 ht
      | some r, some w, z2 => exact ⟨z2, am_T_le z3 ht⟩
    obtain ⟨t2, a1, b1⟩ := kk r h' z7 ok κ T'.heap lr _ _ hrel (am_L_le z3 hl) hst T' rfl X'
    exact ⟨t2, go t2 a1, b1⟩
  · subst y1
    have hrel : am_Rel G (p, e, R, s, m, args, below, meth, c, ι0) κ h' T'.heap (lc ++ L) := ⟨by rw [e1]; exact y3, by rw [e1]; exact y4, by rw [e1]; rw [h0] at y5; exact Nat.le_trans hr.2.2.1 y5, fun z hz => (List.mem_append.mp hz).elim (hr.2.2.2.1 z) (hL z), am_le_tr hr.2.2.2.2 y2⟩
    obtain ⟨t2, a1, b1⟩ := kx x h' y6 ok κ T'.heap lr sr _ q ce hrel (am_L_le y2 hl) (by rw [e1]; exact hce) hcv hcl T' rfl X'
    exact ⟨t2, go.trans a1, b1⟩
/-- a callee's words at a call: number of arguments -/
def am_nar (y : MethodName) (na : Nat) : Prop := (y.cls ≠ "java/lang/invoke/MethodHandle" ∧ y.cls ≠ "java/lang/invoke/VarHandle") ∧ (parseMethodDescriptor y.desc).map (fun d => d.parameters.length) = some na ∧ Cond.initialized y.cls ∈ am_uw
theorem am_nar_len {y : MethodName} {na : Nat} (h : am_nar y na) : ∀ sig, parseMethodDescriptor y.desc = some sig → na = sig.parameters.length := by
  intro sig hs
  have := h.2.1
  rw [hs] at this
  simpa using this.symm
theorem am_words {s : State} {args : Array Value} {w0 : Cond} (hw0 : w0 ∈ am_uw) (hts : ∀ w ∈ am_uw, w.before args s = true) : ∀ w ∈ w0 :: am_uw, ∀ (a' : Array Value) (U : State), s.WarmedH U.vm → w.before a' U = true := by
  intro w hw a' U hW
  have hw' : w ∈ am_uw := by
    rcases List.mem_cons.mp hw with z | z
    · rw [z]; exact hw0
    · exact z
  exact word_at hW (good_of_word (am_uw_good w hw')) (hts w hw')
theorem am_rev {as st : List am_AV} {ι : am_Nm → Option Nat} : ∀ {sr : List Value}, am_T ι (as.reverse ++ st) sr → ∃ av sr', sr = av.reverse ++ sr' ∧ am_T ι as av ∧ am_T ι st sr' := by
  induction as generalizing st with
  | nil => intro sr ht; exact ⟨[], sr, rfl, trivial, ht⟩
  | cons a as ih =>
    intro sr ht
    rw [List.reverse_cons, List.append_assoc] at ht
    obtain ⟨av, sr', rfl, h1, h2⟩ := ih (st := [a] ++ st) ht
    obtain ⟨w, ws, rfl, h3, h4⟩ := am_T_1 h2
    exact ⟨w :: av, ws, by simp, ⟨h3, h1⟩, h4⟩
section AmCalls
variable {idx ci na d' mc' ms' nL' : Nat} {y : MethodName} {bytes : ByteArray} {ret : Option FieldType} {as fs st0 : List am_AV} {nm : am_Nm} {Q' : am_Re → am_AH → Prop}
/-- a call of an instance method of a class by its own link, or by a nest mate's -/
def am_mv_ (own : String) (idx ci : Nat) (y : MethodName) (na : Nat) (w0 : Cond) : Prop := w0 ∈ am_uw ∧ am_nar y na ∧ Cond.instanceMethod y ∈ am_uw ∧ (∃ r, vwCl[ci]? = some r ∧ Cond.selects r.1 y y ∈ am_uw) ∧ (Cond.methodLink own idx y ∈ am_uw ∨ ∃ host, Cond.methodLinkNest own idx y host ∈ lw_tbl)
theorem am_callV (hd : am_d Y.1 pc (.invokevirtual idx) 3 q) (hw : am_mv_ Y.2.2.1 idx ci y na (.code y bytes nL' ret)) (hC : am_Con G y (.code y bytes nL' ret) d' mc' ms' (am_R nm :: as) h Q') (hst0 : st0 = as.reverse ++ am_R nm :: st) (hna : as.length = na) (hh : h nm = some (am_O ci fs)) (hdd : d' + 1 ≤ d) (hnL : nL' ≤ 17) (hst : st.length ≤ 4) (hk : k + mc' ≤ mc) (hn : n + ms' ≤ ms)
    (kk : ∀ r h', Q' (.inl r) h' → am_W G X Y d mc ms Qs q ls (r.toList ++ st) h' (k + mc') (n + ms')) (kx : ∀ x h', Q' (.inr x) h' → am_WX G X Y d mc ms Qs pc ls h' (k + mc') (n + ms') x) : am_W G X Y d mc ms Qs pc ls st0 h k n := by
  subst hst0
  obtain ⟨p, e, R, s, m, args, below, meth, c, ι0⟩ := X
  obtain ⟨hd, rfl⟩ := hd
  intro ok ι H lr sr lc hr hl ht
  obtain ⟨av, sr1, rfl, ht1, ht2⟩ := am_rev ht
  obtain ⟨w, sr2, rfl, ⟨a, ha, rfl⟩, ht3⟩ := am_T_1 ht2
  have ok' := ok
  obtain ⟨hx, hb, hml, ho, hts, -, -, -, -, hRf, hRl, hRc, hRs, hold, hK⟩ := ok
  obtain ⟨w1, w2, w3, ⟨r9, hr9, w4⟩, w5⟩ := hw
  have hM := hC ι (Value.ref a :: av) ⟨⟨a, ha, rfl⟩, ht1⟩
  have hsum := am_sum8 ι ht3 hst
  have hp : PreV s H r9.1 a (am_Pc G ι (Value.ref a :: av) h) av := by
    refine ⟨am_blind, ?_, fun U hU hW => ⟨rfl, by rw [hU]; exact hr.1, by rw [hU]; exact hr.2.1, am_K_warm hW hK⟩⟩
    obtain ⟨a', ha', r, V, g1, ⟨ce9, g2, g3, g4, -⟩, -⟩ := hr.1.1 nm _ hh
    cases ha.symm.trans ha'
    cases hr9.symm.trans g1
    exact ⟨ce9, g2, by rw [g4]; rfl, by rw [g3]; exact (hK.1.1 ci _ g1).2.1⟩
  have hroom : 8 + (nL' + 11) + (am_rm d' mc' ms').locals ≤ R.locals := by
    show 8 + (nL' + 11) + 36 * d' ≤ R.locals
    omega
  have hfr : (am_rm d' mc' ms').frames + 1 ≤ R.frames := by rw [hRf]; exact hdd
  have hlen : av.length = na := (am_T_len ht1).trans hna
  refine am_run (a9 := (Value.ref a :: av).toArray) ok' ?_ hr hl ht3 kk kx
  rcases w5 with w5 | ⟨host, w5⟩
  · exact vx_runV (As := av) (rest := sr2) (n := na) (C := r9.1) (index := idx) (y := y) ⟨hx, hb, hml, ho, hts⟩ hM ⟨⟨rfl, rfl, hfr, hroom, am_words w1 hts, List.mem_cons_self, hts _ w1, hts _ w2.2.2, w2.1, am_nar_len w2, hts _ w5⟩, hts _ w3, hts _ w4⟩ hp rfl hlen hl.1 rfl (lv_room hsum) hd ⟨by rw [hRc]; exact hk, by rw [hRs]; exact hn⟩
  · exact vx_runVN (As := av) (rest := sr2) (n := na) (C := r9.1) (index := idx) (y := y) (host := host) ⟨hx, hb, hml, ho, hts⟩ hM ⟨⟨⟨rfl, rfl, hfr, hroom, am_words w1 hts, List.mem_cons_self⟩, hts _ w1, hts _ w2.2.2, w2.1, am_nar_len w2, va_Nw.use rfl (hK.2.2.1 _ w5 rfl)⟩, hts _ w3, hts _ w4⟩ hp rfl hlen hl.1 rfl (lv_room hsum) hd ⟨by rw [hRc]; exact hk, by rw [hRs]; exact hn⟩
def am_ms_ (own : String) (idx : Nat) (y : MethodName) (na : Nat) (w0 : Cond) : Prop := w0 ∈ am_uw ∧ am_nar y na ∧ Cond.static y ∈ am_uw ∧ Cond.methodLink own idx y ∈ am_uw
theorem am_callS (hd : am_d Y.1 pc (.invokestatic idx) 3 q) (hw : am_ms_ Y.2.2.1 idx y na (.code y bytes nL' ret)) (hC : am_Con G y (.code y bytes nL' ret) d' mc' ms' as h Q') (hst0 : st0 = as.reverse ++ st) (hna : as.length = na) (hdd : d' + 1 ≤ d) (hnL : nL' ≤ 17) (hst : st.length ≤ 4) (hk : k + mc' ≤ mc) (hn : n + ms' ≤ ms)
    (kk : ∀ r h', Q' (.inl r) h' → am_W G X Y d mc ms Qs q ls (r.toList ++ st) h' (k + mc') (n + ms')) (kx : ∀ x h', Q' (.inr x) h' → am_WX G X Y d mc ms Qs pc ls h' (k + mc') (n + ms') x) : am_W G X Y d mc ms Qs pc ls st0 h k n := by
  subst hst0
  obtain ⟨p, e, R, s, m, args, below, meth, c, ι0⟩ := X
  obtain ⟨hd, rfl⟩ := hd
  intro ok ι H lr sr lc hr hl ht
  obtain ⟨av, sr2, rfl, ht1, ht3⟩ := am_rev ht
  have ok' := ok
  obtain ⟨hx, hb, hml, ho, hts, -, -, -, -, hRf, hRl, hRc, hRs, hold, hK⟩ := ok
  obtain ⟨w1, w2, w3, w5⟩ := hw
  have hM := hC ι av ht1
  have hsum := am_sum8 ι ht3 hst
  have hp : PreS s H (am_Pc G ι av h) av := ⟨am_blind, fun U hU hW => ⟨rfl, by rw [hU]; exact hr.1, by rw [hU]; exact hr.2.1, am_K_warm hW hK⟩⟩
  have hroom : 8 + (nL' + 11) + (am_rm d' mc' ms').locals ≤ R.locals := by
    show 8 + (nL' + 11) + 36 * d' ≤ R.locals
    omega
  have hfr : (am_rm d' mc' ms').frames + 1 ≤ R.frames := by rw [hRf]; exact hdd
  have hlen : av.length = na := (am_T_len ht1).trans hna
  refine am_run (a9 := av.toArray) ok' ?_ hr hl ht3 kk kx
  exact vx_runS (As := av) (rest := sr2) (n := na) (index := idx) (y := y) ⟨hx, hb, hml, ho, hts⟩ hM ⟨⟨rfl, rfl, hfr, hroom, am_words w1 hts, List.mem_cons_self, hts _ w1, hts _ w2.2.2, w2.1, am_nar_len w2, hts _ w5⟩, hts _ w3⟩ hp rfl hlen hl.1 rfl (lv_room hsum) hd ⟨by rw [hRc]; exact hk, by rw [hRs]; exact hn⟩
theorem am_callSH {hh9 : List (Nat × Nat × Nat × Nat)} (hd : am_d Y.1 pc (.invokestatic idx) 3 q) (hw : am_ms_ Y.2.2.1 idx y na (.codeWith y bytes nL' ret hh9)) (hC : am_Con G y (.codeWith y bytes nL' ret hh9) d' mc' ms' as h Q') (hst0 : st0 = as.reverse ++ st) (hna : as.length = na) (hdd : d' + 1 ≤ d) (hnL : nL' ≤ 17) (hst : st.length ≤ 4) (hk : k + mc' ≤ mc) (hn : n + ms' ≤ ms)
    (kk : ∀ r h', Q' (.inl r) h' → am_W G X Y d mc ms Qs q ls (r.toList ++ st) h' (k + mc') (n + ms')) (kx : ∀ x h', Q' (.inr x) h' → am_WX G X Y d mc ms Qs pc ls h' (k + mc') (n + ms') x) : am_W G X Y d mc ms Qs pc ls st0 h k n := by
  subst hst0
  obtain ⟨p, e, R, s, m, args, below, meth, c, ι0⟩ := X
  obtain ⟨hd, rfl⟩ := hd
  intro ok ι H lr sr lc hr hl ht
  obtain ⟨av, sr2, rfl, ht1, ht3⟩ := am_rev ht
  have ok' := ok
  obtain ⟨hx, hb, hml, ho, hts, -, -, -, -, hRf, hRl, hRc, hRs, hold, hK⟩ := ok
  obtain ⟨w1, w2, w3, w5⟩ := hw
  have hM := hC ι av ht1
  have hsum := am_sum8 ι ht3 hst
  have hp : PreS s H (am_Pc G ι av h) av := ⟨am_blind, fun U hU hW => ⟨rfl, by rw [hU]; exact hr.1, by rw [hU]; exact hr.2.1, am_K_warm hW hK⟩⟩
  have hroom : 8 + (nL' + 11) + (am_rm d' mc' ms').locals ≤ R.locals := by
    show 8 + (nL' + 11) + 36 * d' ≤ R.locals
    omega
  have hfr : (am_rm d' mc' ms').frames + 1 ≤ R.frames := by rw [hRf]; exact hdd
  have hlen : av.length = na := (am_T_len ht1).trans hna
  refine am_run (a9 := av.toArray) ok' ?_ hr hl ht3 kk kx
  exact vx_runSX (As := av) (rest := sr2) (n := na) (index := idx) (y := y) ⟨hx, hb, hml, ho, hts⟩ hM ⟨⟨rfl, rfl, hfr, hroom, am_words w1 hts, List.mem_cons_self⟩, hts _ w1, hts _ w2.2.2, w2.1, am_nar_len w2, hts _ w5, hts _ w3⟩ hp rfl hlen hl.1 rfl (lv_room hsum) hd ⟨by rw [hRc]; exact hk, by rw [hRs]; exact hn⟩
def am_mi_ (own : String) (idx : Nat) (y : MethodName) (na : Nat) (w0 : Cond) : Prop := w0 ∈ am_uw ∧ am_nar y na ∧ Cond.instanceMethod y ∈ am_uw ∧ y.name = "<init>" ∧ (Cond.methodLink own idx y ∈ am_uw ∨ ∃ host, Cond.methodLinkNest own idx y host ∈ lw_tbl)
theorem am_callI (hd : am_d Y.1 pc (.invokespecial idx) 3 q) (hw : am_mi_ Y.2.2.1 idx y na (.code y bytes nL' none)) (hC : am_Con G y (.code y bytes nL' none) d' mc' ms' (am_R nm :: as) h Q') (hst0 : st0 = as.reverse ++ am_R nm :: st) (hna : as.length = na) (hdd : d' + 1 ≤ d) (hnL : nL' ≤ 17) (hst : st.length ≤ 4) (hk : k + mc' ≤ mc) (hn : n + ms' ≤ ms)
    (kk : ∀ r h', Q' (.inl r) h' → am_W G X Y d mc ms Qs q ls (r.toList ++ st) h' (k + mc') (n + ms')) (kx : ∀ x h', Q' (.inr x) h' → am_WX G X Y d mc ms Qs pc ls h' (k + mc') (n + ms') x) : am_W G X Y d mc ms Qs pc ls st0 h k n := by
  subst hst0
  obtain ⟨p, e, R, s, m, args, below, meth, c, ι0⟩ := X
  obtain ⟨hd, rfl⟩ := hd
  intro ok ι H lr sr lc hr hl ht
  obtain ⟨av, sr1, rfl, ht1, ht2⟩ := am_rev ht
  obtain ⟨w, sr2, rfl, ⟨a, ha, rfl⟩, ht3⟩ := am_T_1 ht2
  have ok' := ok
  obtain ⟨hx, hb, hml, ho, hts, -, -, -, -, hRf, hRl, hRc, hRs, hold, hK⟩ := ok
  obtain ⟨w1, w2, w3, w4, w5⟩ := hw
  have hM := hC ι (Value.ref a :: av) ⟨⟨a, ha, rfl⟩, ht1⟩
  have hsum := am_sum8 ι ht3 hst
  have hp : PreS s H (am_Pc G ι (Value.ref a :: av) h) (Value.ref a :: av) := ⟨am_blind, fun U hU hW => ⟨rfl, by rw [hU]; exact hr.1, by rw [hU]; exact hr.2.1, am_K_warm hW hK⟩⟩
  have hroom : 8 + (nL' + 11) + (am_rm d' mc' ms').locals ≤ R.locals := by
    show 8 + (nL' + 11) + 36 * d' ≤ R.locals
    omega
  have hfr : (am_rm d' mc' ms').frames + 1 ≤ R.frames := by rw [hRf]; exact hdd
  have hlen : av.length = na := (am_T_len ht1).trans hna
  refine am_run (a9 := (Value.ref a :: av).toArray) ok' ?_ hr hl ht3 kk kx
  rcases w5 with w5 | ⟨host, w5⟩
  · exact vx_runI (As := av) (rest := sr2) (n := na) (index := idx) (y := y) (b := a) ⟨hx, hb, hml, ho, hts⟩ hM ⟨⟨rfl, rfl, hfr, hroom, am_words w1 hts, List.mem_cons_self, hts _ w1, hts _ w2.2.2, w2.1, am_nar_len w2, hts _ w5⟩, w4, hts _ w3⟩ hp rfl hlen hl.1 rfl (lv_room hsum) hd ⟨by rw [hRc]; exact hk, by rw [hRs]; exact hn⟩
  · exact vx_runIN (As := av) (rest := sr2) (n := na) (index := idx) (y := y) (b := a) (host := host) ⟨hx, hb, hml, ho, hts⟩ hM ⟨⟨⟨rfl, rfl, hfr, hroom, am_words w1 hts, List.mem_cons_self⟩, hts _ w1, hts _ w2.2.2, w2.1, am_nar_len w2, va_Nw.use rfl (hK.2.2.1 _ w5 rfl)⟩, w4, hts _ w3⟩ hp rfl hlen hl.1 rfl (lv_room hsum) hd ⟨by rw [hRc]; exact hk, by rw [hRs]; exact hn⟩
theorem am_objInit (hd : am_d Y.1 pc (.invokespecial idx) 3 q) (hl1 : Cond.methodLink Y.2.2.1 idx Lib.objectInit ∈ am_uw) (hi1 : Cond.instanceMethod Lib.objectInit ∈ am_uw) (hc1 : Cond.code Lib.objectInit ⟨#[0xb1]⟩ 1 none ∈ am_uw) (hdd : 1 ≤ d) (hst : st.length ≤ 4) (kk : am_W G X Y d mc ms Qs q ls st h k n) : am_W G X Y d mc ms Qs pc ls (am_R nm :: st) h k n := by
  obtain ⟨p, e, R, s, m, args, below, meth, c, ι0⟩ := X
  obtain ⟨hd, rfl⟩ := hd
  intro ok ι H lr sr lc hr hl ht
  obtain ⟨w, sr2, rfl, ⟨a, ha, rfl⟩, ht3⟩ := am_T_1 ht
  have ok' := ok
  obtain ⟨hx, hb, hml, ho, hts, -, -, -, -, hRf, hRl, hRc, hRs, hold, hK⟩ := ok
  have hsum := am_sum8 ι ht3 hst
  exact W.objInit hx hb ho (hts _ hl1) (hts _ hi1) (hts _ hc1) rfl (by show lr.size = _; rw [hl.1, hml]) rfl hd (by rw [hRf]; exact hdd) (by show 2 * 0 + _ + 12 ≤ _; omega) (kk ok' ι H lr sr2 lc hr hl ht3)
end AmCalls
end AmEnds
end
section
/-! further rows: copies of arrays, long compares, the script, the switch, handlers -/
section AmMore
variable {G : am_G} {X : am_X} {Y : am_Y} {d mc ms : Nat} {Q : State → Prop} {pc q t : Nat} {ls : List (Option am_AV)} {st : List am_AV} {h : am_AH} {k n : Nat}
theorem am_r64 {a : Int} (h : am_r a) : (Int64.ofInt a).toInt = a := Int64.toInt_ofInt_of_le (by have := h.1; omega) (by have := h.2; omega)
theorem am_lcmp {a b : Int} (ha : am_r a) (hb : am_r b) (hd : am_d Y.1 pc .lcmp 1 q) (kk : ∀ z, am_r z → (z = 0 ↔ a = b) → am_W G X Y d mc ms Q q ls (am_I z :: st) h k n) : am_W G X Y d mc ms Q pc ls (am_J b :: am_J a :: st) h k n := by
  obtain ⟨p, e, R, s, m, args, below, meth, c, ι0⟩ := X
  obtain ⟨hd, rfl⟩ := hd
  intro ok ι H lr sr lc hr hl ht
  obtain ⟨w, sr, rfl, q1, ht1⟩ := am_T_1 ht
  obtain ⟨u, sr, rfl, q2, ht2⟩ := am_T_1 ht1
  cases q1; cases q2
  have he : Int64.ofInt a = Int64.ofInt b ↔ a = b := by rw [← Int64.toInt_inj, am_r64 ha, am_r64 hb]
  have hg : Int64.ofInt a > Int64.ofInt b ↔ b < a := by rw [gt_iff_lt, Int64.lt_iff_toInt_lt, am_r64 ha, am_r64 hb]
  refine W.lcmp ok.1 ok.2.1 hd ?_
  have key : ∃ z : Int, am_r z ∧ (z = 0 ↔ a = b) ∧ lg_cmp (Int64.ofInt a) (Int64.ofInt b) = Int32.ofInt z := by
    unfold lg_cmp
    by_cases c1 : b < a
    · refine ⟨1, ⟨by decide, by decide⟩, ⟨fun z => absurd z (by decide), fun z => by omega⟩, ?_⟩
      rw [if_pos (hg.mpr c1)]; decide
    · rw [if_neg (fun z => c1 (hg.mp z))]
      by_cases c2 : a = b
      · refine ⟨0, am_r0, ⟨fun _ => c2, fun _ => rfl⟩, ?_⟩
        rw [if_pos (he.mpr c2)]; decide
      · refine ⟨-1, ⟨by decide, by decide⟩, ⟨fun z => absurd z (by decide), fun z => absurd z c2⟩, ?_⟩
        rw [if_neg (fun z => c2 (he.mp z))]; decide
  obtain ⟨z, z1, z2, z3⟩ := key
  rw [z3]
  exact kk z z1 z2 ok ι H lr _ lc hr hl ⟨rfl, ht2⟩
/-- the script's ints -/
theorem am_sld {i : Int} (hd : am_d Y.1 pc .iaload 1 q) (h0 : 0 ≤ i) (h1 : i < G.2.2.2.2.2.2.1) (hz : G.2.2.2.2.2.2.1 < 2147483648) (kk : am_W G X Y d mc ms Q q ls (am_I (G.2.2.2.2.2.2.2 i.toNat).toInt :: st) h k n) : am_W G X Y d mc ms Q pc ls (am_I i :: am_R am_scr :: st) h k n := by
  obtain ⟨p, e, R, s, m, args, below, meth, c, ι0⟩ := X
  obtain ⟨hd, rfl⟩ := hd
  intro ok ι H lr sr lc hr hl ht
  obtain ⟨w, sr, rfl, hw, ht1⟩ := am_T_1 ht
  cases hw
  obtain ⟨w2, sr, rfl, ⟨a, ha, rfl⟩, ht2⟩ := am_T_1 ht1
  have hK : am_K G s := ok.2.2.2.2.2.2.2.2.2.2.2.2.2.2
  obtain ⟨scr, g1, g2, g3, g4, g5⟩ := hK.2.2.2.2.2.2.1
  have hsb := hK.2.2.2.2.2.2.2.1
  have hab : a = G.2.2.2.2.2.1 := Option.some.inj (ha.symm.trans hr.1.2.2.2.2)
  subst hab
  obtain ⟨b1, b2⟩ := am_idx h0 h1 hz
  refine W.iald ok.1 ok.2.1 (by rw [hr.2.1.2 _ hsb]; exact g1) g2 g3 (by rw [g4]; exact b1) (v := .int (G.2.2.2.2.2.2.2 i.toNat)) (by rw [b2]; exact g5 _ (by omega)) rfl rfl hd ?_
  exact kk ok ι H lr _ lc hr hl ⟨by show Value.int _ = Value.int _; rw [Int32.ofInt_toInt], ht2⟩
theorem am_slen (hd : am_d Y.1 pc .arraylength 1 q) (kk : am_W G X Y d mc ms Q q ls (am_I (G.2.2.2.2.2.2.1 : Nat) :: st) h k n) : am_W G X Y d mc ms Q pc ls (am_R am_scr :: st) h k n := by
  obtain ⟨p, e, R, s, m, args, below, meth, c, ι0⟩ := X
  obtain ⟨hd, rfl⟩ := hd
  intro ok ι H lr sr lc hr hl ht
  obtain ⟨w2, sr, rfl, ⟨a, ha, rfl⟩, ht2⟩ := am_T_1 ht
  have hK : am_K G s := ok.2.2.2.2.2.2.2.2.2.2.2.2.2.2
  obtain ⟨scr, g1, g2, g3, g4, g5⟩ := hK.2.2.2.2.2.2.1
  have hsb := hK.2.2.2.2.2.2.2.1
  have hab : a = G.2.2.2.2.2.1 := Option.some.inj (ha.symm.trans hr.1.2.2.2.2)
  subst hab
  refine W.alen (n := Int32.ofInt (G.2.2.2.2.2.2.1 : Nat)) ok.1 ok.2.1 (by rw [hr.2.1.2 _ hsb]; exact g1) g2 (by rw [g4]; rfl) rfl rfl hd ?_
  exact kk ok ι H lr _ lc hr hl ⟨rfl, ht2⟩
theorem am_and31 {a : Int} (ha : am_r a) (hd : am_d Y.1 pc .iand 1 q) (kk : am_W G X Y d mc ms Q q ls (am_I (a % 32) :: st) h k n) : am_W G X Y d mc ms Q pc ls (am_I 31 :: am_I a :: st) h k n := by
  obtain ⟨p, e, R, s, m, args, below, meth, c, ι0⟩ := X
  obtain ⟨hd, rfl⟩ := hd
  intro ok ι H lr sr lc hr hl ht
  obtain ⟨w, sr, rfl, q1, ht1⟩ := am_T_1 ht
  obtain ⟨u, sr, rfl, q2, ht2⟩ := am_T_1 ht1
  cases q1; cases q2
  refine lv_iand ok.1 ok.2.1 hd (kk ok ι H lr _ lc hr hl ⟨?_, ht2⟩)
  show Value.int _ = Value.int _
  congr 1
  rw [pk_and (Int32.ofInt a) (m := Int32.ofInt 31) 5 (by decide)]
  rw [← Int32.toInt_inj, am_toInt ⟨by omega, by omega⟩, nI_toInt (by omega)]
  have h3 : (Int32.ofInt a).toBitVec.toNat = (a % 2 ^ 32).toNat := by
    show (BitVec.ofInt 32 a).toNat = _
    rw [BitVec.toNat_ofInt]
    rfl
  rw [h3]
  omega
theorem am_tabOut {dflt lo hi : Int} {offs : Array Int} {len : Nat} {x : Int} (hx : am_r x) (hd : decode Y.1 pc = .ok (.tableswitch dflt lo hi offs, len)) (ht9 : (pc : Int) + dflt = (t : Int)) (hb9 : x < lo ∨ hi < x) (kk : am_W G X Y d mc ms Q t ls st h k n) : am_W G X Y d mc ms Q pc ls (am_I x :: st) h k n := by
  obtain ⟨p, e, R, s, m, args, below, meth, c, ι0⟩ := X
  intro ok ι H lr sr lc hr hl ht
  obtain ⟨w, sr, rfl, q1, ht1⟩ := am_T_1 ht
  cases q1
  exact lv_tableOut ok.1 ok.2.1 hd (by rw [am_toInt hx]; exact hb9) ht9 (kk ok ι H lr _ lc hr hl ht1)
theorem am_tabIn {dflt lo hi off : Int} {offs : Array Int} {len : Nat} {x : Int} (hx : am_r x) (hd : decode Y.1 pc = .ok (.tableswitch dflt lo hi offs, len)) (h1 : lo ≤ x) (h2 : x ≤ hi) (ho : offs[(x - lo).toNat]? = some off) (ht9 : (pc : Int) + off = (t : Int)) (kk : am_W G X Y d mc ms Q t ls st h k n) : am_W G X Y d mc ms Q pc ls (am_I x :: st) h k n := by
  obtain ⟨p, e, R, s, m, args, below, meth, c, ι0⟩ := X
  intro ok ι H lr sr lc hr hl ht
  obtain ⟨w, sr, rfl, q1, ht1⟩ := am_T_1 ht
  cases q1
  exact lv_tableIn ok.1 ok.2.1 hd (by rw [am_toInt hx]; omega) (by rw [am_toInt hx]; omega) (by rw [am_toInt hx]; exact ho) ht9 (kk ok ι H lr _ lc hr hl ht1)
theorem am_L_setN {nL : Nat} {ι : am_Nm → Option Nat} {lr lr' : Array Slot} (hl : am_L nL ι ls lr) {i : Nat} {w : Value} (h2 : lv_has lr' nL ((i, w) :: (am_lv lr).filter (fun q => !(q.1 == i) && !(q.1 + 1 == i && q.2.category == 2)))) : am_L nL ι (ls.set i none) lr' := by
  refine ⟨h2.1, h2.2.1, by rw [List.length_set]; exact hl.2.2.1, fun j u hu => ?_⟩
  by_cases e : j = i
  · subst e
    by_cases hj : j < ls.length
    · rw [List.getElem?_set_self hj] at hu
      cases hu
    · rw [List.getElem?_eq_none (by simpa using hj)] at hu
      cases hu
  · rw [List.getElem?_set_ne (Ne.symm e)] at hu
    obtain ⟨w', h3, h4, h5⟩ := hl.2.2.2 j u hu
    refine ⟨w', h2.2.2 (j, w') (List.mem_cons_of_mem _ (List.mem_filter.mpr ⟨am_lv_in h3 h5, ?_⟩)), h4, h5⟩
    simp [e, h5]
/-- caught by the i-th handler, and put away into a local -/
theorem am_catch {x i a b hp ct j : Nat} (hi : Y.2.2.2.2.2[i]? = some (a, b, hp, ct)) (hx : x < 3) (hcov : a ≤ pc ∧ pc < b) (hpass : ∀ z ∈ Y.2.2.2.2.2.take i, z.2.2.2 ≠ 0 ∧ ∃ y, y < 3 ∧ y ≠ x ∧ Cond.classLink Y.2.2.1 z.2.2.2 (am_ex y) ∈ am_uw) (hct : ct ≠ 0) (hlk : Cond.classLink Y.2.2.1 ct (am_ex x) ∈ am_uw) (hcs : Cond.castable (am_ex x) (am_ex x) ∈ lw_tbl)
    (hd : am_d Y.1 hp (.astore j) 2 q ∨ ∃ jn : Fin 4, (jn : Nat) = j ∧ am_d Y.1 hp (.astore_n jn) 1 q) (hj : j < Y.2.1) (kk : am_W G X Y d mc ms Q q (ls.set j none) [] h k n) : am_WX G X Y d mc ms Q pc ls h k n x := by
  obtain ⟨p, e, R, s, m, args, below, meth, c, ι0⟩ := X
  intro ok ι H lr sr lc q9 ce hr hl h1 h2 h3
  have ok' := ok
  obtain ⟨hx9, hb, hml, ho, hts, -, -, -, htb, hRf, hRl, hRc, hRs, hold, hK⟩ := ok
  have hsp : Y.2.2.2.2.2 = Y.2.2.2.2.2.take i ++ (a, b, hp, ct) :: Y.2.2.2.2.2.drop (i + 1) := by
    have hlt := (List.getElem?_eq_some_iff.mp hi).1
    have he := (List.getElem?_eq_some_iff.mp hi).2
    have := List.take_append_drop i Y.2.2.2.2.2
    rw [List.drop_eq_getElem_cons hlt, he] at this
    exact this.symm
  rw [hsp] at htb
  have htb2 : c.exceptionTable.toList = tableOf (Y.2.2.2.2.2.take i) ++ { startPc := a, endPc := b, handlerPc := hp, catchType := ct } :: tableOf (Y.2.2.2.2.2.drop (i + 1)) := by
    rw [htb]
    simp [tableOf]
  refine vx_catch (own := Y.2.2.1) (name := am_ex x) ho _ _ _ htb2 (fun z hz => Or.inr ?_) (by simp [covers]; omega) hct (hts _ hlk) (va_Nw.use rfl (hK.2.2.1 _ hcs rfl)) h1 h2 h3 ?_
  · obtain ⟨z', hz', rfl⟩ : ∃ z' ∈ Y.2.2.2.2.2.take i, z = { startPc := z'.1, endPc := z'.2.1, handlerPc := z'.2.2.1, catchType := z'.2.2.2 } := by
      simp only [tableOf, List.mem_map] at hz
      obtain ⟨z', g1, g2⟩ := hz
      exact ⟨z', g1, g2.symm⟩
    obtain ⟨g1, y, g2, g3, g4⟩ := hpass z' hz'
    exact ⟨g1, am_ex y, hts _ g4, hK.2.2.2.2.2.1 x y hx g2 (Ne.symm g3)⟩
  · rcases hd with ⟨hd, rfl⟩ | ⟨jn, rfl, hd, rfl⟩
    · exact lv_astore hx9 hb hd (am_lv_has hl) hj rfl fun lr' hl' => kk ok' ι H lr' [] lc hr (am_L_setN hl hl') trivial
    · exact lv_astore_n hx9 hb hd rfl (am_lv_has hl) hj rfl fun lr' hl' => kk ok' ι H lr' [] lc hr (am_L_setN hl hl') trivial
/-- ints copied from one place to another, perhaps of the same array -/
def am_cpy (f g : Nat → Int) (sp dp n : Nat) : Nat → Int := fun j => if dp ≤ j ∧ j < dp + n then f (sp + (j - dp)) else g j
theorem am_arrI {ι : am_Nm → Option Nat} {len a : Nat} {f : Nat → Int} {H : Heap} (hc : am_C G ι (am_A 0 len (fun j => am_I (f j))) a H) : H[a]? = some (arrV (G.2.2.2.2.1 0) len (fun j => .int (Int32.ofInt (f j)))) := by
  obtain ⟨w, h1, h2⟩ := hc
  rw [h1]
  congr 1
  unfold arrV
  congr 1
  congr 1
  funext j
  exact h2 j.val j.isLt
theorem am_copy {n0 n1 : am_Nm} {l0 l1 : Nat} {f g : Nat → Int} {sp dp len : Int} {idx : Nat} (hd : am_d Y.1 pc (.invokestatic idx) 3 q) (hlk : Cond.methodLink Y.2.2.1 idx arraycopyName ∈ am_uw) (hnat : Cond.native arraycopyName ∈ am_uw) (hstt : Cond.static arraycopyName ∈ am_uw) (hini : Cond.initialized "java/lang/System" ∈ am_uw)
    (hh0 : h n0 = some (am_A 0 l0 (fun j => am_I (f j)))) (hh1 : h n1 = some (am_A 0 l1 (fun j => am_I (g j)))) (h1 : 0 ≤ sp) (h2 : 0 ≤ dp) (h3 : 0 ≤ len) (h4 : sp + len ≤ l0) (h5 : dp + len ≤ l1) (hl0 : l0 < 1000000) (hl1 : l1 < 1000000) (hdd : 2 ≤ d) (hst : st.length ≤ 4)
    (kk : am_W G X Y d mc ms Q q ls st (am_up h n1 (am_A 0 l1 (fun j => am_I (am_cpy f g sp.toNat dp.toNat len.toNat j)))) k n) : am_W G X Y d mc ms Q pc ls (am_I len :: am_I dp :: am_R n1 :: am_I sp :: am_R n0 :: st) h k n := by
  obtain ⟨p, e, R, s, m, args, below, meth, c, ι0⟩ := X
  obtain ⟨hd, rfl⟩ := hd
  intro ok ι H lr sr lc hr hl ht
  obtain ⟨w, sr, rfl, hw, ht1⟩ := am_T_1 ht
  cases hw
  obtain ⟨w, sr, rfl, hw, ht2⟩ := am_T_1 ht1
  cases hw
  obtain ⟨w, sr, rfl, ⟨a1, ha1, rfl⟩, ht3⟩ := am_T_1 ht2
  obtain ⟨w, sr, rfl, hw, ht4⟩ := am_T_1 ht3
  cases hw
  obtain ⟨w, sr, rfl, ⟨a0, ha0, rfl⟩, ht5⟩ := am_T_1 ht4
  have ok' := ok
  obtain ⟨hx, hb, hml, ho, hts, -, -, -, htb, hRf, hRl, hRc, hRs, hold, hK⟩ := ok
  obtain ⟨a0', ha0', hc0'⟩ := hr.1.1 n0 _ hh0
  cases ha0.symm.trans ha0'
  obtain ⟨a1', ha1', hc1'⟩ := hr.1.1 n1 _ hh1
  cases ha1.symm.trans ha1'
  have hc0 := am_arrI hc0'
  have hc1 := am_arrI hc1'
  have rr : ∀ z : Int, 0 ≤ z → z ≤ 1000000 → ¬ Int32.ofInt z < 0 ∧ (Int32.ofInt z).toNatClampNeg = z.toNat ∧ (Int32.ofInt z).toInt = z := by
    intro z g1 g2
    have hrz : am_r z := ⟨by omega, by omega⟩
    refine ⟨by rw [am_z, am_lt hrz am_r0]; omega, ?_, am_toInt hrz⟩
    show (Int32.ofInt z).toInt.toNat = z.toNat
    rw [am_toInt hrz]
  obtain ⟨s1, s2, s3⟩ := rr sp h1 (by omega)
  obtain ⟨d1, d2, d3⟩ := rr dp h2 (by omega)
  obtain ⟨e1, e2, e3⟩ := rr len h3 (by omega)
  have hsum := am_sum8 ι ht5 hst
  obtain ⟨-, k0, hk0, cm0, hkk0⟩ := (hK.1.2 0 _ (am_tys_at G 0 (by decide))).1 l0 (fun j => .int (Int32.ofInt (f j)))
  obtain ⟨-, k1, hk1, cm1, hkk1⟩ := (hK.1.2 0 _ (am_tys_at G 0 (by decide))).1 l1 (fun j => .int (Int32.ofInt (g j)))
  have hnf : nativeFrameWords "java/lang/System" "arraycopy" 5 ≤ 50 := by decide +kernel
  intro T hT XX
  obtain ⟨vm', X', step⟩ := XX.arraycopy hx ho (hts _ hlk) (hts _ hnat) (hts _ hstt) (hts _ hini) (src := a0) (dst := a1) (cs := arrV (G.2.2.2.2.1 0) l0 (fun j => .int (Int32.ofInt (f j)))) (cd := arrV (G.2.2.2.2.1 0) l1 (fun j => .int (Int32.ofInt (g j)))) (srcPos := Int32.ofInt sp) (destPos := Int32.ofInt dp) (n := Int32.ofInt len) (by rw [hT]; exact hc0) (by rw [hT]; exact hc1)
    (fun _ h => by cases h) (fun _ h => by cases h) (fun h => by cases h) (fun h => by cases h) hk0 hk1 hkk0 hkk1 rfl s1 d1 e1
    (by rw [s3, e3, arrV_size]; omega)
    (by rw [d3, e3, arrV_size]; omega)
    (fun vm₁ _ i hi => by
      rw [e2] at hi
      have e9 : (arrV (G.2.2.2.2.1 0) l0 (fun j => .int (Int32.ofInt (f j)))).slots.getD ((Int32.ofInt sp).toNatClampNeg + i) .null = .int (Int32.ofInt (f ((Int32.ofInt sp).toNatClampNeg + i))) := by
        rw [Array.getD_eq_getD_getElem?, arrV_read _ _ (by rw [s2]; omega)]
        rfl
      refine ⟨?_, ?_⟩
      · rw [e9]
        rfl
      · rw [e9]
        exact trivial)
    (g := F0 m pc lr (.int (Int32.ofInt len) :: .int (Int32.ofInt dp) :: .ref a1 :: .int (Int32.ofInt sp) :: .ref a0 :: sr)) rfl (by rw [hml]; exact hl.1) (rest := sr) rfl (by rw [hb]; exact hd) (by rw [hRf]; omega) (by show 2 * 0 + _ + (nativeFrameWords "java/lang/System" "arraycopy" 5 + 11) ≤ _; omega)
  have e1 : copied (arrV (G.2.2.2.2.1 0) l0 (fun j => .int (Int32.ofInt (f j)))) (arrV (G.2.2.2.2.1 0) l1 (fun j => .int (Int32.ofInt (g j)))) (Int32.ofInt sp) (Int32.ofInt dp) (Int32.ofInt len) = arrV (G.2.2.2.2.1 0) l1 (fun j => .int (Int32.ofInt (am_cpy f g sp.toNat dp.toNat len.toNat j))) := by
    have z := va_copied (fun z => Value.int (Int32.ofInt z)) (G.2.2.2.2.1 0) (G.2.2.2.2.1 0) (n0 := l0) (n1 := l1) (sp := (Int32.ofInt sp).toNatClampNeg) (dp := (Int32.ofInt dp).toNatClampNeg) (n := (Int32.ofInt len).toNatClampNeg) f g (by rw [s2, e2]; omega)
    refine Eq.trans z ?_
    rw [s2, d2, e2]
    rfl
  rw [e1] at X' step
  have hlt : a1 < H.size := (Array.getElem?_eq_some_iff.mp hc1).1
  have hheap : ((T.setVm vm').setCell a1 (arrV (G.2.2.2.2.1 0) l1 (fun j => .int (Int32.ofInt (am_cpy f g sp.toNat dp.toNat len.toNat j))))).heap = H.setIfInBounds a1 (arrV (G.2.2.2.2.1 0) l1 (fun j => .int (Int32.ofInt (am_cpy f g sp.toNat dp.toNat len.toNat j)))) := by rw [← hT]; rfl
  have hfr := am_scr_ne hr.1 hh1 ha1
  have hrel := am_Rel_set (sl := 0) (H1 := H.setIfInBounds a1 (arrV (G.2.2.2.2.1 0) l1 (fun j => .int (Int32.ofInt (am_cpy f g sp.toNat dp.toNat len.toNat j))))) hr hh1 ha1 (by simp) (fun b hb => by simp [Array.getElem?_setIfInBounds, Ne.symm hb]) (c1 := am_A 0 l1 (fun j => am_I (am_cpy f g sp.toNat dp.toNat len.toNat j))) ⟨_, by simp [Array.getElem?_setIfInBounds, hlt], fun j _ => rfl⟩
  obtain ⟨t, b1, b2⟩ := kk ok' ι _ lr sr _ ⟨hrel.1, hrel.2.1, hrel.2.2.1, fun z hz => by
    rcases List.mem_append.mp hz with h | h
    · exact hr.2.2.2.1 z h
    · obtain ⟨y, -, hy⟩ := List.mem_map.mp h
      rw [← hy]
      exact hfr, hrel.2.2.2.2⟩ hl ht5 _ hheap X'
  exact ⟨t, step t b1, b2⟩
end AmMore
end
section
theorem am_ux {w : Cond} (k : Nat) (h : lw_tbl[k]? = some w) (hg : goodWord w = true) : w ∈ am_uw := List.mem_filter.mpr ⟨List.mem_of_getElem? h, hg⟩
abbrev mX0_init : am_Y := (cX0_init, 1, RX0, (Option.none : Option FieldType), true, [])
abbrev wX0_init : Cond := .code yX0_init cX0_init 1 (Option.none : Option FieldType)
theorem vX0_init : wX0_init ∈ am_uw := (am_ux 307 (by decide +kernel) rfl)
theorem nX0_init : am_nar yX0_init 0 := ⟨⟨by decide +kernel, by decide +kernel⟩, by decide +kernel, (am_ux 68 (by decide +kernel) rfl)⟩
abbrev mX0_keepOne : am_Y := (cX0_keepOne, 2, RX0, (Option.some FieldType.boolean), false, [])
abbrev wX0_keepOne : Cond := .code yX0_keepOne cX0_keepOne 2 (Option.some FieldType.boolean)
theorem vX0_keepOne : wX0_keepOne ∈ am_uw := (am_ux 543 (by decide +kernel) rfl)
theorem nX0_keepOne : am_nar yX0_keepOne 1 := ⟨⟨by decide +kernel, by decide +kernel⟩, by decide +kernel, (am_ux 68 (by decide +kernel) rfl)⟩
abbrev mX0_keepAll : am_Y := (cX0_keepAll, 5, RX0, (Option.some FieldType.boolean), false, [])
abbrev wX0_keepAll : Cond := .code yX0_keepAll cX0_keepAll 5 (Option.some FieldType.boolean)
theorem vX0_keepAll : wX0_keepAll ∈ am_uw := (am_ux 520 (by decide +kernel) rfl)
theorem nX0_keepAll : am_nar yX0_keepAll 3 := ⟨⟨by decide +kernel, by decide +kernel⟩, by decide +kernel, (am_ux 68 (by decide +kernel) rfl)⟩
abbrev mX0_removeFirst : am_Y := (cX0_removeFirst, 2, RX0, (Option.some FieldType.int), false, [])
abbrev wX0_removeFirst : Cond := .code yX0_removeFirst cX0_removeFirst 2 (Option.some FieldType.int)
theorem vX0_removeFirst : wX0_removeFirst ∈ am_uw := (am_ux 665 (by decide +kernel) rfl)
theorem nX0_removeFirst : am_nar yX0_removeFirst 0 := ⟨⟨by decide +kernel, by decide +kernel⟩, by decide +kernel, (am_ux 68 (by decide +kernel) rfl)⟩
abbrev mX1_init : am_Y := (cX1_init, 1, RX1, (Option.none : Option FieldType), true, [])
abbrev wX1_init : Cond := .code yX1_init cX1_init 1 (Option.none : Option FieldType)
theorem vX1_init : wX1_init ∈ am_uw := (am_ux 93 (by decide +kernel) rfl)
theorem nX1_init : am_nar yX1_init 0 := ⟨⟨by decide +kernel, by decide +kernel⟩, by decide +kernel, (am_ux 59 (by decide +kernel) rfl)⟩
abbrev mX1_indexOf : am_Y := (cX1_indexOf, 3, RX1, (Option.some FieldType.int), false, [])
abbrev wX1_indexOf : Cond := .code yX1_indexOf cX1_indexOf 3 (Option.some FieldType.int)
theorem vX1_indexOf : wX1_indexOf ∈ am_uw := (am_ux 477 (by decide +kernel) rfl)
theorem nX1_indexOf : am_nar yX1_indexOf 1 := ⟨⟨by decide +kernel, by decide +kernel⟩, by decide +kernel, (am_ux 59 (by decide +kernel) rfl)⟩
abbrev mX1_phraseAt : am_Y := (cX1_phraseAt, 3, RX1, (Option.some FieldType.int), false, [])
abbrev wX1_phraseAt : Cond := .code yX1_phraseAt cX1_phraseAt 3 (Option.some FieldType.int)
theorem vX1_phraseAt : wX1_phraseAt ∈ am_uw := (am_ux 473 (by decide +kernel) rfl)
theorem nX1_phraseAt : am_nar yX1_phraseAt 1 := ⟨⟨by decide +kernel, by decide +kernel⟩, by decide +kernel, (am_ux 59 (by decide +kernel) rfl)⟩
abbrev mX1_lowestSpotOf : am_Y := (cX1_lowestSpotOf, 4, RX1, (Option.some FieldType.int), false, [])
abbrev wX1_lowestSpotOf : Cond := .code yX1_lowestSpotOf cX1_lowestSpotOf 4 (Option.some FieldType.int)
theorem vX1_lowestSpotOf : wX1_lowestSpotOf ∈ am_uw := (am_ux 515 (by decide +kernel) rfl)
theorem nX1_lowestSpotOf : am_nar yX1_lowestSpotOf 1 := ⟨⟨by decide +kernel, by decide +kernel⟩, by decide +kernel, (am_ux 59 (by decide +kernel) rfl)⟩
abbrev mX1_put : am_Y := (cX1_put, 4, RX1, (Option.some FieldType.boolean), false, [])
abbrev wX1_put : Cond := .code yX1_put cX1_put 4 (Option.some FieldType.boolean)
theorem vX1_put : wX1_put ∈ am_uw := (am_ux 481 (by decide +kernel) rfl)
theorem nX1_put : am_nar yX1_put 2 := ⟨⟨by decide +kernel, by decide +kernel⟩, by decide +kernel, (am_ux 59 (by decide +kernel) rfl)⟩
abbrev mX1_add : am_Y := (cX1_add, 3, RX1, (Option.some FieldType.boolean), false, [])
abbrev wX1_add : Cond := .code yX1_add cX1_add 3 (Option.some FieldType.boolean)
theorem vX1_add : wX1_add ∈ am_uw := (am_ux 489 (by decide +kernel) rfl)
theorem nX1_add : am_nar yX1_add 2 := ⟨⟨by decide +kernel, by decide +kernel⟩, by decide +kernel, (am_ux 59 (by decide +kernel) rfl)⟩
abbrev mX1_remove : am_Y := (cX1_remove, 2, RX1, (Option.none : Option FieldType), false, [])
abbrev wX1_remove : Cond := .code yX1_remove cX1_remove 2 (Option.none : Option FieldType)
theorem vX1_remove : wX1_remove ∈ am_uw := (am_ux 485 (by decide +kernel) rfl)
theorem nX1_remove : am_nar yX1_remove 1 := ⟨⟨by decide +kernel, by decide +kernel⟩, by decide +kernel, (am_ux 59 (by decide +kernel) rfl)⟩
abbrev mX2_init : am_Y := (cX2_init, 4, RX2, (Option.none : Option FieldType), true, [])
abbrev wX2_init : Cond := .code yX2_init cX2_init 4 (Option.none : Option FieldType)
theorem vX2_init : wX2_init ∈ am_uw := (am_ux 625 (by decide +kernel) rfl)
theorem nX2_init : am_nar yX2_init 3 := ⟨⟨by decide +kernel, by decide +kernel⟩, by decide +kernel, (am_ux 75 (by decide +kernel) rfl)⟩
abbrev mX2_add : am_Y := (cX2_add, 2, RX2, (Option.none : Option FieldType), false, [])
abbrev wX2_add : Cond := .code yX2_add cX2_add 2 (Option.none : Option FieldType)
theorem vX2_add : wX2_add ∈ am_uw := (am_ux 657 (by decide +kernel) rfl)
theorem nX2_add : am_nar yX2_add 1 := ⟨⟨by decide +kernel, by decide +kernel⟩, by decide +kernel, (am_ux 75 (by decide +kernel) rfl)⟩
abbrev mX2_spots : am_Y := (cX2_spots, 1, RX2, (Option.some FieldType.int), false, [])
abbrev wX2_spots : Cond := .code yX2_spots cX2_spots 1 (Option.some FieldType.int)
theorem vX2_spots : wX2_spots ∈ am_uw := (am_ux 749 (by decide +kernel) rfl)
theorem nX2_spots : am_nar yX2_spots 0 := ⟨⟨by decide +kernel, by decide +kernel⟩, by decide +kernel, (am_ux 75 (by decide +kernel) rfl)⟩
abbrev mX2_tell : am_Y := (cX2_tell, 2, RX2, (Option.some FieldType.int), false, [])
abbrev wX2_tell : Cond := .code yX2_tell cX2_tell 2 (Option.some FieldType.int)
theorem vX2_tell : wX2_tell ∈ am_uw := (am_ux 745 (by decide +kernel) rfl)
theorem nX2_tell : am_nar yX2_tell 1 := ⟨⟨by decide +kernel, by decide +kernel⟩, by decide +kernel, (am_ux 75 (by decide +kernel) rfl)⟩
abbrev mX3_init : am_Y := (cX3_init, 1, RX3, (Option.none : Option FieldType), true, [])
abbrev wX3_init : Cond := .code yX3_init cX3_init 1 (Option.none : Option FieldType)
theorem vX3_init : wX3_init ∈ am_uw := (am_ux 313 (by decide +kernel) rfl)
theorem nX3_init : am_nar yX3_init 0 := ⟨⟨by decide +kernel, by decide +kernel⟩, by decide +kernel, (am_ux 69 (by decide +kernel) rfl)⟩
abbrev mX3_enter : am_Y := (cX3_enter, 4, RX3, (Option.none : Option FieldType), false, [])
abbrev wX3_enter : Cond := .code yX3_enter cX3_enter 4 (Option.none : Option FieldType)
theorem vX3_enter : wX3_enter ∈ am_uw := (am_ux 548 (by decide +kernel) rfl)
theorem nX3_enter : am_nar yX3_enter 3 := ⟨⟨by decide +kernel, by decide +kernel⟩, by decide +kernel, (am_ux 69 (by decide +kernel) rfl)⟩
abbrev mX3_tell : am_Y := (cX3_tell, 3, RX3, (Option.some FieldType.int), false, [])
abbrev wX3_tell : Cond := .code yX3_tell cX3_tell 3 (Option.some FieldType.int)
theorem vX3_tell : wX3_tell ∈ am_uw := (am_ux 715 (by decide +kernel) rfl)
theorem nX3_tell : am_nar yX3_tell 2 := ⟨⟨by decide +kernel, by decide +kernel⟩, by decide +kernel, (am_ux 69 (by decide +kernel) rfl)⟩
abbrev mX3_nextTaken : am_Y := (cX3_nextTaken, 3, RX3, (Option.some FieldType.int), false, [])
abbrev wX3_nextTaken : Cond := .code yX3_nextTaken cX3_nextTaken 3 (Option.some FieldType.int)
theorem vX3_nextTaken : wX3_nextTaken ∈ am_uw := (am_ux 729 (by decide +kernel) rfl)
theorem nX3_nextTaken : am_nar yX3_nextTaken 1 := ⟨⟨by decide +kernel, by decide +kernel⟩, by decide +kernel, (am_ux 69 (by decide +kernel) rfl)⟩
abbrev mX4_init : am_Y := (cX4_init, 2, RX4, (Option.none : Option FieldType), true, [])
abbrev wX4_init : Cond := .code yX4_init cX4_init 2 (Option.none : Option FieldType)
theorem vX4_init : wX4_init ∈ am_uw := (am_ux 560 (by decide +kernel) rfl)
theorem nX4_init : am_nar yX4_init 1 := ⟨⟨by decide +kernel, by decide +kernel⟩, by decide +kernel, (am_ux 73 (by decide +kernel) rfl)⟩
abbrev mX4_note : am_Y := (cX4_note, 2, RX4, (Option.none : Option FieldType), false, [])
abbrev wX4_note : Cond := .code yX4_note cX4_note 2 (Option.none : Option FieldType)
theorem vX4_note : wX4_note ∈ am_uw := (am_ux 673 (by decide +kernel) rfl)
theorem nX4_note : am_nar yX4_note 1 := ⟨⟨by decide +kernel, by decide +kernel⟩, by decide +kernel, (am_ux 73 (by decide +kernel) rfl)⟩
abbrev mX5_init : am_Y := (cX5_init, 2, RX5, (Option.none : Option FieldType), true, [])
abbrev wX5_init : Cond := .code yX5_init cX5_init 2 (Option.none : Option FieldType)
theorem vX5_init : wX5_init ∈ am_uw := (am_ux 370 (by decide +kernel) rfl)
theorem nX5_init : am_nar yX5_init 1 := ⟨⟨by decide +kernel, by decide +kernel⟩, by decide +kernel, (am_ux 70 (by decide +kernel) rfl)⟩
abbrev mX5_layHill : am_Y := (cX5_layHill, 3, RX5, (Option.some FieldType.boolean), false, [])
abbrev wX5_layHill : Cond := .code yX5_layHill cX5_layHill 3 (Option.some FieldType.boolean)
theorem vX5_layHill : wX5_layHill ∈ am_uw := (am_ux 423 (by decide +kernel) rfl)
theorem nX5_layHill : am_nar yX5_layHill 2 := ⟨⟨by decide +kernel, by decide +kernel⟩, by decide +kernel, (am_ux 70 (by decide +kernel) rfl)⟩
abbrev mX5_isClear : am_Y := (cX5_isClear, 4, RX5, (Option.some FieldType.boolean), false, [])
abbrev wX5_isClear : Cond := .code yX5_isClear cX5_isClear 4 (Option.some FieldType.boolean)
theorem vX5_isClear : wX5_isClear ∈ am_uw := (am_ux 605 (by decide +kernel) rfl)
theorem nX5_isClear : am_nar yX5_isClear 2 := ⟨⟨by decide +kernel, by decide +kernel⟩, by decide +kernel, (am_ux 70 (by decide +kernel) rfl)⟩
abbrev mX6_init : am_Y := (cX6_init, 1, RX6, (Option.none : Option FieldType), true, [])
abbrev wX6_init : Cond := .code yX6_init cX6_init 1 (Option.none : Option FieldType)
theorem vX6_init : wX6_init ∈ am_uw := (am_ux 110 (by decide +kernel) rfl)
theorem nX6_init : am_nar yX6_init 0 := ⟨⟨by decide +kernel, by decide +kernel⟩, by decide +kernel, (am_ux 60 (by decide +kernel) rfl)⟩
abbrev mX6_putOn : am_Y := (cX6_putOn, 4, RX6, (Option.none : Option FieldType), false, [])
abbrev wX6_putOn : Cond := .code yX6_putOn cX6_putOn 4 (Option.none : Option FieldType)
theorem vX6_putOn : wX6_putOn ∈ am_uw := (am_ux 613 (by decide +kernel) rfl)
theorem nX6_putOn : am_nar yX6_putOn 2 := ⟨⟨by decide +kernel, by decide +kernel⟩, by decide +kernel, (am_ux 60 (by decide +kernel) rfl)⟩
abbrev mX6_begin : am_Y := (cX6_begin, 3, RX6, (Option.none : Option FieldType), false, [])
abbrev wX6_begin : Cond := .code yX6_begin cX6_begin 3 (Option.none : Option FieldType)
theorem vX6_begin : wX6_begin ∈ am_uw := (am_ux 617 (by decide +kernel) rfl)
theorem nX6_begin : am_nar yX6_begin 2 := ⟨⟨by decide +kernel, by decide +kernel⟩, by decide +kernel, (am_ux 60 (by decide +kernel) rfl)⟩
abbrev mX6_end : am_Y := (cX6_end, 3, RX6, (Option.none : Option FieldType), false, [])
abbrev wX6_end : Cond := .code yX6_end cX6_end 3 (Option.none : Option FieldType)
theorem vX6_end : wX6_end ∈ am_uw := (am_ux 653 (by decide +kernel) rfl)
theorem nX6_end : am_nar yX6_end 1 := ⟨⟨by decide +kernel, by decide +kernel⟩, by decide +kernel, (am_ux 60 (by decide +kernel) rfl)⟩
abbrev mX6_dropAll : am_Y := (cX6_dropAll, 1, RX6, (Option.none : Option FieldType), false, [])
abbrev wX6_dropAll : Cond := .code yX6_dropAll cX6_dropAll 1 (Option.none : Option FieldType)
theorem vX6_dropAll : wX6_dropAll ∈ am_uw := (am_ux 621 (by decide +kernel) rfl)
theorem nX6_dropAll : am_nar yX6_dropAll 0 := ⟨⟨by decide +kernel, by decide +kernel⟩, by decide +kernel, (am_ux 60 (by decide +kernel) rfl)⟩
abbrev mX7_init : am_Y := (cX7_init, 2, RX7, (Option.none : Option FieldType), true, [])
abbrev wX7_init : Cond := .code yX7_init cX7_init 2 (Option.none : Option FieldType)
theorem vX7_init : wX7_init ∈ am_uw := (am_ux 301 (by decide +kernel) rfl)
theorem nX7_init : am_nar yX7_init 1 := ⟨⟨by decide +kernel, by decide +kernel⟩, by decide +kernel, (am_ux 67 (by decide +kernel) rfl)⟩
abbrev mX7_armFor : am_Y := (cX7_armFor, 2, RX7, (Option.some (FieldType.object "ArmtowerLine$Arm")), false, [])
abbrev wX7_armFor : Cond := .code yX7_armFor cX7_armFor 2 (Option.some (FieldType.object "ArmtowerLine$Arm"))
theorem vX7_armFor : wX7_armFor ∈ am_uw := (am_ux 535 (by decide +kernel) rfl)
theorem nX7_armFor : am_nar yX7_armFor 1 := ⟨⟨by decide +kernel, by decide +kernel⟩, by decide +kernel, (am_ux 67 (by decide +kernel) rfl)⟩
abbrev mX8_init : am_Y := (cX8_init, 2, RX8, (Option.none : Option FieldType), true, [])
abbrev wX8_init : Cond := .code yX8_init cX8_init 2 (Option.none : Option FieldType)
theorem vX8_init : wX8_init ∈ am_uw := (am_ux 80 (by decide +kernel) rfl)
theorem nX8_init : am_nar yX8_init 0 := ⟨⟨by decide +kernel, by decide +kernel⟩, by decide +kernel, (am_ux 58 (by decide +kernel) rfl)⟩
abbrev mX8_tower : am_Y := (cX8_tower, 3, RX8, (Option.some FieldType.int), false, [])
abbrev wX8_tower : Cond := .code yX8_tower cX8_tower 3 (Option.some FieldType.int)
theorem vX8_tower : wX8_tower ∈ am_uw := (am_ux 210 (by decide +kernel) rfl)
theorem nX8_tower : am_nar yX8_tower 2 := ⟨⟨by decide +kernel, by decide +kernel⟩, by decide +kernel, (am_ux 58 (by decide +kernel) rfl)⟩
abbrev mX8_hill : am_Y := (cX8_hill, 5, RX8, (Option.some FieldType.int), false, [])
abbrev wX8_hill : Cond := .code yX8_hill cX8_hill 5 (Option.some FieldType.int)
theorem vX8_hill : wX8_hill ∈ am_uw := (am_ux 398 (by decide +kernel) rfl)
theorem nX8_hill : am_nar yX8_hill 3 := ⟨⟨by decide +kernel, by decide +kernel⟩, by decide +kernel, (am_ux 58 (by decide +kernel) rfl)⟩
abbrev mX8_air : am_Y := (cX8_air, 5, RX8, (Option.some FieldType.int), false, [])
abbrev wX8_air : Cond := .code yX8_air cX8_air 5 (Option.some FieldType.int)
theorem vX8_air : wX8_air ∈ am_uw := (am_ux 431 (by decide +kernel) rfl)
theorem nX8_air : am_nar yX8_air 2 := ⟨⟨by decide +kernel, by decide +kernel⟩, by decide +kernel, (am_ux 58 (by decide +kernel) rfl)⟩
abbrev mX8_tire : am_Y := (cX8_tire, 5, RX8, (Option.some FieldType.int), false, [])
abbrev wX8_tire : Cond := .code yX8_tire cX8_tire 5 (Option.some FieldType.int)
theorem vX8_tire : wX8_tire ∈ am_uw := (am_ux 439 (by decide +kernel) rfl)
theorem nX8_tire : am_nar yX8_tire 2 := ⟨⟨by decide +kernel, by decide +kernel⟩, by decide +kernel, (am_ux 58 (by decide +kernel) rfl)⟩
abbrev mX8_seed : am_Y := (cX8_seed, 3, RX8, (Option.some FieldType.int), false, [])
abbrev wX8_seed : Cond := .code yX8_seed cX8_seed 3 (Option.some FieldType.int)
theorem vX8_seed : wX8_seed ∈ am_uw := (am_ux 452 (by decide +kernel) rfl)
theorem nX8_seed : am_nar yX8_seed 1 := ⟨⟨by decide +kernel, by decide +kernel⟩, by decide +kernel, (am_ux 58 (by decide +kernel) rfl)⟩
abbrev mX8_write : am_Y := (cX8_write, 8, RX8, (Option.some FieldType.int), false, [])
abbrev wX8_write : Cond := .code yX8_write cX8_write 8 (Option.some FieldType.int)
theorem vX8_write : wX8_write ∈ am_uw := (am_ux 460 (by decide +kernel) rfl)
theorem nX8_write : am_nar yX8_write 4 := ⟨⟨by decide +kernel, by decide +kernel⟩, by decide +kernel, (am_ux 58 (by decide +kernel) rfl)⟩
abbrev mX8_type : am_Y := (cX8_type, 2, RX8, (Option.some FieldType.int), false, [])
abbrev wX8_type : Cond := .code yX8_type cX8_type 2 (Option.some FieldType.int)
theorem vX8_type : wX8_type ∈ am_uw := (am_ux 497 (by decide +kernel) rfl)
theorem nX8_type : am_nar yX8_type 1 := ⟨⟨by decide +kernel, by decide +kernel⟩, by decide +kernel, (am_ux 58 (by decide +kernel) rfl)⟩
abbrev mX8_clear : am_Y := (cX8_clear, 2, RX8, (Option.some FieldType.int), false, [])
abbrev wX8_clear : Cond := .code yX8_clear cX8_clear 2 (Option.some FieldType.int)
theorem vX8_clear : wX8_clear ∈ am_uw := (am_ux 181 (by decide +kernel) rfl)
theorem nX8_clear : am_nar yX8_clear 0 := ⟨⟨by decide +kernel, by decide +kernel⟩, by decide +kernel, (am_ux 58 (by decide +kernel) rfl)⟩
abbrev mX8_send : am_Y := (cX8_send, 7, RX8, (Option.some FieldType.int), false, [])
abbrev wX8_send : Cond := .code yX8_send cX8_send 7 (Option.some FieldType.int)
theorem vX8_send : wX8_send ∈ am_uw := (am_ux 506 (by decide +kernel) rfl)
theorem nX8_send : am_nar yX8_send 3 := ⟨⟨by decide +kernel, by decide +kernel⟩, by decide +kernel, (am_ux 58 (by decide +kernel) rfl)⟩
abbrev mX8_mark : am_Y := (cX8_mark, 6, RX8, (Option.some FieldType.int), false, [])
abbrev wX8_mark : Cond := .code yX8_mark cX8_mark 6 (Option.some FieldType.int)
theorem vX8_mark : wX8_mark ∈ am_uw := (am_ux 531 (by decide +kernel) rfl)
theorem nX8_mark : am_nar yX8_mark 3 := ⟨⟨by decide +kernel, by decide +kernel⟩, by decide +kernel, (am_ux 58 (by decide +kernel) rfl)⟩
abbrev mX8_spy : am_Y := (cX8_spy, 2, RX8, (Option.some FieldType.int), false, [])
abbrev wX8_spy : Cond := .code yX8_spy cX8_spy 2 (Option.some FieldType.int)
theorem vX8_spy : wX8_spy ∈ am_uw := (am_ux 555 (by decide +kernel) rfl)
theorem nX8_spy : am_nar yX8_spy 1 := ⟨⟨by decide +kernel, by decide +kernel⟩, by decide +kernel, (am_ux 58 (by decide +kernel) rfl)⟩
abbrev mX8_pass : am_Y := (cX8_pass, 3, RX8, (Option.some FieldType.int), false, [])
abbrev wX8_pass : Cond := .code yX8_pass cX8_pass 3 (Option.some FieldType.int)
theorem vX8_pass : wX8_pass ∈ am_uw := (am_ux 581 (by decide +kernel) rfl)
theorem nX8_pass : am_nar yX8_pass 1 := ⟨⟨by decide +kernel, by decide +kernel⟩, by decide +kernel, (am_ux 58 (by decide +kernel) rfl)⟩
abbrev mX8_minute : am_Y := (cX8_minute, 1, RX8, (Option.some FieldType.int), false, [])
abbrev wX8_minute : Cond := .code yX8_minute cX8_minute 1 (Option.some FieldType.int)
theorem vX8_minute : wX8_minute ∈ am_uw := (am_ux 185 (by decide +kernel) rfl)
theorem nX8_minute : am_nar yX8_minute 0 := ⟨⟨by decide +kernel, by decide +kernel⟩, by decide +kernel, (am_ux 58 (by decide +kernel) rfl)⟩
abbrev mX8_towers : am_Y := (cX8_towers, 1, RX8, (Option.some FieldType.int), false, [])
abbrev wX8_towers : Cond := .code yX8_towers cX8_towers 1 (Option.some FieldType.int)
theorem vX8_towers : wX8_towers ∈ am_uw := (am_ux 189 (by decide +kernel) rfl)
theorem nX8_towers : am_nar yX8_towers 0 := ⟨⟨by decide +kernel, by decide +kernel⟩, by decide +kernel, (am_ux 58 (by decide +kernel) rfl)⟩
abbrev mX8_sees : am_Y := (cX8_sees, 2, RX8, (Option.some FieldType.boolean), false, [])
abbrev wX8_sees : Cond := .code yX8_sees cX8_sees 2 (Option.some FieldType.boolean)
theorem vX8_sees : wX8_sees ∈ am_uw := (am_ux 680 (by decide +kernel) rfl)
theorem nX8_sees : am_nar yX8_sees 1 := ⟨⟨by decide +kernel, by decide +kernel⟩, by decide +kernel, (am_ux 58 (by decide +kernel) rfl)⟩
abbrev mX8_shows : am_Y := (cX8_shows, 3, RX8, (Option.some FieldType.int), false, [])
abbrev wX8_shows : Cond := .code yX8_shows cX8_shows 3 (Option.some FieldType.int)
theorem vX8_shows : wX8_shows ∈ am_uw := (am_ux 687 (by decide +kernel) rfl)
theorem nX8_shows : am_nar yX8_shows 2 := ⟨⟨by decide +kernel, by decide +kernel⟩, by decide +kernel, (am_ux 58 (by decide +kernel) rfl)⟩
abbrev mX8_keeps : am_Y := (cX8_keeps, 5, RX8, (Option.some FieldType.int), false, [])
abbrev wX8_keeps : Cond := .code yX8_keeps cX8_keeps 5 (Option.some FieldType.int)
theorem vX8_keeps : wX8_keeps ∈ am_uw := (am_ux 694 (by decide +kernel) rfl)
theorem nX8_keeps : am_nar yX8_keeps 3 := ⟨⟨by decide +kernel, by decide +kernel⟩, by decide +kernel, (am_ux 58 (by decide +kernel) rfl)⟩
abbrev mX8_logs : am_Y := (cX8_logs, 3, RX8, (Option.some FieldType.int), false, [])
abbrev wX8_logs : Cond := .code yX8_logs cX8_logs 3 (Option.some FieldType.int)
theorem vX8_logs : wX8_logs ∈ am_uw := (am_ux 702 (by decide +kernel) rfl)
theorem nX8_logs : am_nar yX8_logs 2 := ⟨⟨by decide +kernel, by decide +kernel⟩, by decide +kernel, (am_ux 58 (by decide +kernel) rfl)⟩
abbrev mX8_log : am_Y := (cX8_log, 6, RX8, (Option.some FieldType.int), false, [])
abbrev wX8_log : Cond := .code yX8_log cX8_log 6 (Option.some FieldType.int)
theorem vX8_log : wX8_log ∈ am_uw := (am_ux 709 (by decide +kernel) rfl)
theorem nX8_log : am_nar yX8_log 4 := ⟨⟨by decide +kernel, by decide +kernel⟩, by decide +kernel, (am_ux 58 (by decide +kernel) rfl)⟩
abbrev mX8_differs : am_Y := (cX8_differs, 6, RX8, (Option.some FieldType.int), false, [])
abbrev wX8_differs : Cond := .code yX8_differs cX8_differs 6 (Option.some FieldType.int)
theorem vX8_differs : wX8_differs ∈ am_uw := (am_ux 722 (by decide +kernel) rfl)
theorem nX8_differs : am_nar yX8_differs 3 := ⟨⟨by decide +kernel, by decide +kernel⟩, by decide +kernel, (am_ux 58 (by decide +kernel) rfl)⟩
abbrev mX8_came : am_Y := (cX8_came, 2, RX8, (Option.some FieldType.int), false, [])
abbrev wX8_came : Cond := .code yX8_came cX8_came 2 (Option.some FieldType.int)
theorem vX8_came : wX8_came ∈ am_uw := (am_ux 193 (by decide +kernel) rfl)
theorem nX8_came : am_nar yX8_came 1 := ⟨⟨by decide +kernel, by decide +kernel⟩, by decide +kernel, (am_ux 58 (by decide +kernel) rfl)⟩
abbrev mX8_told : am_Y := (cX8_told, 5, RX8, (Option.some FieldType.int), false, [])
abbrev wX8_told : Cond := .code yX8_told cX8_told 5 (Option.some FieldType.int)
theorem vX8_told : wX8_told ∈ am_uw := (am_ux 736 (by decide +kernel) rfl)
theorem nX8_told : am_nar yX8_told 3 := ⟨⟨by decide +kernel, by decide +kernel⟩, by decide +kernel, (am_ux 58 (by decide +kernel) rfl)⟩
abbrev mX8_phrase : am_Y := (cX8_phrase, 7, RX8, (Option.some FieldType.int), false, [])
abbrev wX8_phrase : Cond := .code yX8_phrase cX8_phrase 7 (Option.some FieldType.int)
theorem vX8_phrase : wX8_phrase ∈ am_uw := (am_ux 756 (by decide +kernel) rfl)
theorem nX8_phrase : am_nar yX8_phrase 4 := ⟨⟨by decide +kernel, by decide +kernel⟩, by decide +kernel, (am_ux 58 (by decide +kernel) rfl)⟩
abbrev mX8_open : am_Y := (cX8_open, 2, RX8, (Option.some FieldType.int), false, [])
abbrev wX8_open : Cond := .code yX8_open cX8_open 2 (Option.some FieldType.int)
theorem vX8_open : wX8_open ∈ am_uw := (am_ux 201 (by decide +kernel) rfl)
theorem nX8_open : am_nar yX8_open 1 := ⟨⟨by decide +kernel, by decide +kernel⟩, by decide +kernel, (am_ux 58 (by decide +kernel) rfl)⟩
abbrev mX8_seen : am_Y := (cX8_seen, 2, RX8, (Option.some FieldType.int), false, [])
abbrev wX8_seen : Cond := .code yX8_seen cX8_seen 2 (Option.some FieldType.int)
theorem vX8_seen : wX8_seen ∈ am_uw := (am_ux 765 (by decide +kernel) rfl)
theorem nX8_seen : am_nar yX8_seen 1 := ⟨⟨by decide +kernel, by decide +kernel⟩, by decide +kernel, (am_ux 58 (by decide +kernel) rfl)⟩
abbrev mX8_tries : am_Y := (cX8_tries, 7, RX8, (Option.some FieldType.int), false, [])
abbrev wX8_tries : Cond := .code yX8_tries cX8_tries 7 (Option.some FieldType.int)
theorem vX8_tries : wX8_tries ∈ am_uw := (am_ux 777 (by decide +kernel) rfl)
theorem nX8_tries : am_nar yX8_tries 2 := ⟨⟨by decide +kernel, by decide +kernel⟩, by decide +kernel, (am_ux 58 (by decide +kernel) rfl)⟩
abbrev mX8_comes : am_Y := (cX8_comes, 2, RX8, (Option.some FieldType.int), false, [])
abbrev wX8_comes : Cond := .code yX8_comes cX8_comes 2 (Option.some FieldType.int)
theorem vX8_comes : wX8_comes ∈ am_uw := (am_ux 784 (by decide +kernel) rfl)
theorem nX8_comes : am_nar yX8_comes 1 := ⟨⟨by decide +kernel, by decide +kernel⟩, by decide +kernel, (am_ux 58 (by decide +kernel) rfl)⟩
abbrev mX8_comesAnew : am_Y := (cX8_comesAnew, 2, RX8, (Option.some FieldType.int), false, [])
abbrev wX8_comesAnew : Cond := .code yX8_comesAnew cX8_comesAnew 2 (Option.some FieldType.int)
theorem vX8_comesAnew : wX8_comesAnew ∈ am_uw := (am_ux 792 (by decide +kernel) rfl)
theorem nX8_comesAnew : am_nar yX8_comesAnew 1 := ⟨⟨by decide +kernel, by decide +kernel⟩, by decide +kernel, (am_ux 58 (by decide +kernel) rfl)⟩
abbrev mX8_isOutside : am_Y := (cX8_isOutside, 3, RX8, (Option.some FieldType.boolean), false, [])
abbrev wX8_isOutside : Cond := .code yX8_isOutside cX8_isOutside 3 (Option.some FieldType.boolean)
theorem vX8_isOutside : wX8_isOutside ∈ am_uw := (am_ux 213 (by decide +kernel) rfl)
theorem nX8_isOutside : am_nar yX8_isOutside 3 := ⟨⟨by decide +kernel, by decide +kernel⟩, by decide +kernel, (am_ux 58 (by decide +kernel) rfl)⟩
abbrev mX8_spotOf : am_Y := (cX8_spotOf, 2, RX8, (Option.some FieldType.int), false, [])
abbrev wX8_spotOf : Cond := .code yX8_spotOf cX8_spotOf 2 (Option.some FieldType.int)
theorem vX8_spotOf : wX8_spotOf ∈ am_uw := (am_ux 469 (by decide +kernel) rfl)
theorem nX8_spotOf : am_nar yX8_spotOf 2 := ⟨⟨by decide +kernel, by decide +kernel⟩, by decide +kernel, (am_ux 58 (by decide +kernel) rfl)⟩
abbrev mX8_towerAt : am_Y := (cX8_towerAt, 2, RX8, (Option.some (FieldType.object "ArmtowerLine$Tower")), false, [])
abbrev wX8_towerAt : Cond := .code yX8_towerAt cX8_towerAt 2 (Option.some (FieldType.object "ArmtowerLine$Tower"))
theorem vX8_towerAt : wX8_towerAt ∈ am_uw := (am_ux 443 (by decide +kernel) rfl)
theorem nX8_towerAt : am_nar yX8_towerAt 1 := ⟨⟨by decide +kernel, by decide +kernel⟩, by decide +kernel, (am_ux 58 (by decide +kernel) rfl)⟩
abbrev mX8_stretchAt : am_Y := (cX8_stretchAt, 2, RX8, (Option.some (FieldType.object "ArmtowerLine$Stretch")), false, [])
abbrev wX8_stretchAt : Cond := .code yX8_stretchAt cX8_stretchAt 2 (Option.some (FieldType.object "ArmtowerLine$Stretch"))
theorem vX8_stretchAt : wX8_stretchAt ∈ am_uw := (am_ux 402 (by decide +kernel) rfl)
theorem nX8_stretchAt : am_nar yX8_stretchAt 1 := ⟨⟨by decide +kernel, by decide +kernel⟩, by decide +kernel, (am_ux 58 (by decide +kernel) rfl)⟩
abbrev mX8_bookAt : am_Y := (cX8_bookAt, 2, RX8, (Option.some (FieldType.object "ArmtowerLine$Book")), false, [])
abbrev wX8_bookAt : Cond := .code yX8_bookAt cX8_bookAt 2 (Option.some (FieldType.object "ArmtowerLine$Book"))
theorem vX8_bookAt : wX8_bookAt ∈ am_uw := (am_ux 464 (by decide +kernel) rfl)
theorem nX8_bookAt : am_nar yX8_bookAt 1 := ⟨⟨by decide +kernel, by decide +kernel⟩, by decide +kernel, (am_ux 58 (by decide +kernel) rfl)⟩
abbrev mX8_spyAt : am_Y := (cX8_spyAt, 2, RX8, (Option.some (FieldType.object "ArmtowerLine$Spy")), false, [])
abbrev wX8_spyAt : Cond := .code yX8_spyAt cX8_spyAt 2 (Option.some (FieldType.object "ArmtowerLine$Spy"))
theorem vX8_spyAt : wX8_spyAt ∈ am_uw := (am_ux 769 (by decide +kernel) rfl)
theorem nX8_spyAt : am_nar yX8_spyAt 1 := ⟨⟨by decide +kernel, by decide +kernel⟩, by decide +kernel, (am_ux 58 (by decide +kernel) rfl)⟩
abbrev mX8_dispatchAt : am_Y := (cX8_dispatchAt, 4, RX8, (Option.some (FieldType.object "ArmtowerLine$Dispatch")), false, [])
abbrev wX8_dispatchAt : Cond := .code yX8_dispatchAt cX8_dispatchAt 4 (Option.some (FieldType.object "ArmtowerLine$Dispatch"))
theorem vX8_dispatchAt : wX8_dispatchAt ∈ am_uw := (am_ux 740 (by decide +kernel) rfl)
theorem nX8_dispatchAt : am_nar yX8_dispatchAt 2 := ⟨⟨by decide +kernel, by decide +kernel⟩, by decide +kernel, (am_ux 58 (by decide +kernel) rfl)⟩
abbrev mX8_tapeOf : am_Y := (cX8_tapeOf, 2, RX8, (Option.some (FieldType.object "ArmtowerLine$Tape")), false, [])
abbrev wX8_tapeOf : Cond := .code yX8_tapeOf cX8_tapeOf 2 (Option.some (FieldType.object "ArmtowerLine$Tape"))
theorem vX8_tapeOf : wX8_tapeOf ∈ am_uw := (am_ux 197 (by decide +kernel) rfl)
theorem nX8_tapeOf : am_nar yX8_tapeOf 1 := ⟨⟨by decide +kernel, by decide +kernel⟩, by decide +kernel, (am_ux 58 (by decide +kernel) rfl)⟩
abbrev mX8_isEnd : am_Y := (cX8_isEnd, 3, RX8, (Option.some FieldType.boolean), false, [])
abbrev wX8_isEnd : Cond := .code yX8_isEnd cX8_isEnd 3 (Option.some FieldType.boolean)
theorem vX8_isEnd : wX8_isEnd ∈ am_uw := (am_ux 539 (by decide +kernel) rfl)
theorem nX8_isEnd : am_nar yX8_isEnd 2 := ⟨⟨by decide +kernel, by decide +kernel⟩, by decide +kernel, (am_ux 58 (by decide +kernel) rfl)⟩
abbrev mX8_isDay : am_Y := (cX8_isDay, 2, RX8, (Option.some FieldType.boolean), false, [])
abbrev wX8_isDay : Cond := .code yX8_isDay cX8_isDay 2 (Option.some FieldType.boolean)
theorem vX8_isDay : wX8_isDay ∈ am_uw := (am_ux 601 (by decide +kernel) rfl)
theorem nX8_isDay : am_nar yX8_isDay 0 := ⟨⟨by decide +kernel, by decide +kernel⟩, by decide +kernel, (am_ux 58 (by decide +kernel) rfl)⟩
abbrev mX8_isSeenAlong : am_Y := (cX8_isSeenAlong, 2, RX8, (Option.some FieldType.boolean), false, [])
abbrev wX8_isSeenAlong : Cond := .code yX8_isSeenAlong cX8_isSeenAlong 2 (Option.some FieldType.boolean)
theorem vX8_isSeenAlong : wX8_isSeenAlong ∈ am_uw := (am_ux 597 (by decide +kernel) rfl)
theorem nX8_isSeenAlong : am_nar yX8_isSeenAlong 1 := ⟨⟨by decide +kernel, by decide +kernel⟩, by decide +kernel, (am_ux 58 (by decide +kernel) rfl)⟩
abbrev mX8_layOut : am_Y := (cX8_layOut, 6, RX8, (Option.some FieldType.int), false, [])
abbrev wX8_layOut : Cond := .code yX8_layOut cX8_layOut 6 (Option.some FieldType.int)
theorem vX8_layOut : wX8_layOut ∈ am_uw := (am_ux 511 (by decide +kernel) rfl)
theorem nX8_layOut : am_nar yX8_layOut 2 := ⟨⟨by decide +kernel, by decide +kernel⟩, by decide +kernel, (am_ux 58 (by decide +kernel) rfl)⟩
abbrev mX8_passOne : am_Y := (cX8_passOne, 2, RX8, (Option.none : Option FieldType), false, [])
abbrev wX8_passOne : Cond := .code yX8_passOne cX8_passOne 2 (Option.none : Option FieldType)
theorem vX8_passOne : wX8_passOne ∈ am_uw := (am_ux 586 (by decide +kernel) rfl)
theorem nX8_passOne : am_nar yX8_passOne 0 := ⟨⟨by decide +kernel, by decide +kernel⟩, by decide +kernel, (am_ux 58 (by decide +kernel) rfl)⟩
abbrev mX8_look : am_Y := (cX8_look, 8, RX8, (Option.none : Option FieldType), false, [])
abbrev wX8_look : Cond := .code yX8_look cX8_look 8 (Option.none : Option FieldType)
theorem vX8_look : wX8_look ∈ am_uw := (am_ux 590 (by decide +kernel) rfl)
theorem nX8_look : am_nar yX8_look 2 := ⟨⟨by decide +kernel, by decide +kernel⟩, by decide +kernel, (am_ux 58 (by decide +kernel) rfl)⟩
abbrev mX8_signAsRead : am_Y := (cX8_signAsRead, 4, RX8, (Option.some FieldType.int), false, [])
abbrev wX8_signAsRead : Cond := .code yX8_signAsRead cX8_signAsRead 4 (Option.some FieldType.int)
theorem vX8_signAsRead : wX8_signAsRead ∈ am_uw := (am_ux 609 (by decide +kernel) rfl)
theorem nX8_signAsRead : am_nar yX8_signAsRead 2 := ⟨⟨by decide +kernel, by decide +kernel⟩, by decide +kernel, (am_ux 58 (by decide +kernel) rfl)⟩
abbrev mX8_showNext : am_Y := (cX8_showNext, 4, RX8, (Option.none : Option FieldType), false, [])
abbrev wX8_showNext : Cond := .code yX8_showNext cX8_showNext 4 (Option.none : Option FieldType)
theorem vX8_showNext : wX8_showNext ∈ am_uw := (am_ux 661 (by decide +kernel) rfl)
theorem nX8_showNext : am_nar yX8_showNext 2 := ⟨⟨by decide +kernel, by decide +kernel⟩, by decide +kernel, (am_ux 58 (by decide +kernel) rfl)⟩
abbrev mX8_tellSpies : am_Y := (cX8_tellSpies, 4, RX8, (Option.none : Option FieldType), false, [])
abbrev wX8_tellSpies : Cond := .code yX8_tellSpies cX8_tellSpies 4 (Option.none : Option FieldType)
theorem vX8_tellSpies : wX8_tellSpies ∈ am_uw := (am_ux 669 (by decide +kernel) rfl)
theorem nX8_tellSpies : am_nar yX8_tellSpies 2 := ⟨⟨by decide +kernel, by decide +kernel⟩, by decide +kernel, (am_ux 58 (by decide +kernel) rfl)⟩
abbrev mX8_firstUnlike : am_Y := (cX8_firstUnlike, 5, RX8, (Option.some FieldType.int), false, [])
abbrev wX8_firstUnlike : Cond := .code yX8_firstUnlike cX8_firstUnlike 5 (Option.some FieldType.int)
theorem vX8_firstUnlike : wX8_firstUnlike ∈ am_uw := (am_ux 725 (by decide +kernel) rfl)
theorem nX8_firstUnlike : am_nar yX8_firstUnlike 2 := ⟨⟨by decide +kernel, by decide +kernel⟩, by decide +kernel, (am_ux 58 (by decide +kernel) rfl)⟩
abbrev mX8_minutesOfTrial : am_Y := (cX8_minutesOfTrial, 5, RX8, (Option.some FieldType.int), false, [])
abbrev wX8_minutesOfTrial : Cond := .code yX8_minutesOfTrial cX8_minutesOfTrial 5 (Option.some FieldType.int)
theorem vX8_minutesOfTrial : wX8_minutesOfTrial ∈ am_uw := (am_ux 795 (by decide +kernel) rfl)
theorem nX8_minutesOfTrial : am_nar yX8_minutesOfTrial 2 := ⟨⟨by decide +kernel, by decide +kernel⟩, by decide +kernel, (am_ux 58 (by decide +kernel) rfl)⟩
abbrev mX8_passTrialMinute : am_Y := (cX8_passTrialMinute, 4, RX8, (Option.none : Option FieldType), false, [])
abbrev wX8_passTrialMinute : Cond := .code yX8_passTrialMinute cX8_passTrialMinute 4 (Option.none : Option FieldType)
theorem vX8_passTrialMinute : wX8_passTrialMinute ∈ am_uw := (am_ux 799 (by decide +kernel) rfl)
theorem nX8_passTrialMinute : am_nar yX8_passTrialMinute 3 := ⟨⟨by decide +kernel, by decide +kernel⟩, by decide +kernel, (am_ux 58 (by decide +kernel) rfl)⟩
abbrev mX9_init : am_Y := (cX9_init, 2, RX9, (Option.none : Option FieldType), true, [])
abbrev wX9_init : Cond := .code yX9_init cX9_init 2 (Option.none : Option FieldType)
theorem vX9_init : wX9_init ∈ am_uw := (am_ux 804 (by decide +kernel) rfl)
theorem nX9_init : am_nar yX9_init 0 := ⟨⟨by decide +kernel, by decide +kernel⟩, by decide +kernel, (am_ux 61 (by decide +kernel) rfl)⟩
abbrev mX9_thrown : am_Y := (cX9_thrown, 1, RX9, (Option.some FieldType.int), false, [])
abbrev wX9_thrown : Cond := .code yX9_thrown cX9_thrown 1 (Option.some FieldType.int)
theorem vX9_thrown : wX9_thrown ∈ am_uw := (am_ux 939 (by decide +kernel) rfl)
theorem nX9_thrown : am_nar yX9_thrown 0 := ⟨⟨by decide +kernel, by decide +kernel⟩, by decide +kernel, (am_ux 61 (by decide +kernel) rfl)⟩
abbrev mX9_in : am_Y := (cX9_in, 3, RX9, (Option.some FieldType.boolean), false, [])
abbrev wX9_in : Cond := .code yX9_in cX9_in 3 (Option.some FieldType.boolean)
theorem vX9_in : wX9_in ∈ am_uw := (am_ux 946 (by decide +kernel) rfl)
theorem nX9_in : am_nar yX9_in 3 := ⟨⟨by decide +kernel, by decide +kernel⟩, by decide +kernel, (am_ux 61 (by decide +kernel) rfl)⟩
abbrev mX9_isTower : am_Y := (cX9_isTower, 2, RX9, (Option.some FieldType.boolean), false, [])
abbrev wX9_isTower : Cond := .code yX9_isTower cX9_isTower 2 (Option.some FieldType.boolean)
theorem vX9_isTower : wX9_isTower ∈ am_uw := (am_ux 966 (by decide +kernel) rfl)
theorem nX9_isTower : am_nar yX9_isTower 1 := ⟨⟨by decide +kernel, by decide +kernel⟩, by decide +kernel, (am_ux 61 (by decide +kernel) rfl)⟩
abbrev mX9_isStretch : am_Y := (cX9_isStretch, 2, RX9, (Option.some FieldType.boolean), false, [])
abbrev wX9_isStretch : Cond := .code yX9_isStretch cX9_isStretch 2 (Option.some FieldType.boolean)
theorem vX9_isStretch : wX9_isStretch ∈ am_uw := (am_ux 954 (by decide +kernel) rfl)
theorem nX9_isStretch : am_nar yX9_isStretch 1 := ⟨⟨by decide +kernel, by decide +kernel⟩, by decide +kernel, (am_ux 61 (by decide +kernel) rfl)⟩
abbrev mX9_isBook : am_Y := (cX9_isBook, 1, RX9, (Option.some FieldType.boolean), false, [])
abbrev wX9_isBook : Cond := .code yX9_isBook cX9_isBook 1 (Option.some FieldType.boolean)
theorem vX9_isBook : wX9_isBook ∈ am_uw := (am_ux 977 (by decide +kernel) rfl)
theorem nX9_isBook : am_nar yX9_isBook 1 := ⟨⟨by decide +kernel, by decide +kernel⟩, by decide +kernel, (am_ux 61 (by decide +kernel) rfl)⟩
abbrev mX9_at : am_Y := (cX9_at, 2, RX9, (Option.some FieldType.int), false, [])
abbrev wX9_at : Cond := .code yX9_at cX9_at 2 (Option.some FieldType.int)
theorem vX9_at : wX9_at ∈ am_uw := (am_ux 1004 (by decide +kernel) rfl)
theorem nX9_at : am_nar yX9_at 2 := ⟨⟨by decide +kernel, by decide +kernel⟩, by decide +kernel, (am_ux 61 (by decide +kernel) rfl)⟩
abbrev mX9_isEnd : am_Y := (cX9_isEnd, 3, RX9, (Option.some FieldType.boolean), false, [])
abbrev wX9_isEnd : Cond := .code yX9_isEnd cX9_isEnd 3 (Option.some FieldType.boolean)
theorem vX9_isEnd : wX9_isEnd ∈ am_uw := (am_ux 1016 (by decide +kernel) rfl)
theorem nX9_isEnd : am_nar yX9_isEnd 2 := ⟨⟨by decide +kernel, by decide +kernel⟩, by decide +kernel, (am_ux 61 (by decide +kernel) rfl)⟩
abbrev mX9_tower : am_Y := (cX9_tower, 3, RX9, (Option.some FieldType.int), false, [])
abbrev wX9_tower : Cond := .code yX9_tower cX9_tower 3 (Option.some FieldType.int)
theorem vX9_tower : wX9_tower ∈ am_uw := (am_ux 943 (by decide +kernel) rfl)
theorem nX9_tower : am_nar yX9_tower 2 := ⟨⟨by decide +kernel, by decide +kernel⟩, by decide +kernel, (am_ux 61 (by decide +kernel) rfl)⟩
abbrev mX9_hill : am_Y := (cX9_hill, 4, RX9, (Option.some FieldType.int), false, [])
abbrev wX9_hill : Cond := .code yX9_hill cX9_hill 4 (Option.some FieldType.int)
theorem vX9_hill : wX9_hill ∈ am_uw := (am_ux 950 (by decide +kernel) rfl)
theorem nX9_hill : am_nar yX9_hill 3 := ⟨⟨by decide +kernel, by decide +kernel⟩, by decide +kernel, (am_ux 61 (by decide +kernel) rfl)⟩
abbrev mX9_air : am_Y := (cX9_air, 4, RX9, (Option.some FieldType.int), false, [])
abbrev wX9_air : Cond := .code yX9_air cX9_air 4 (Option.some FieldType.int)
theorem vX9_air : wX9_air ∈ am_uw := (am_ux 958 (by decide +kernel) rfl)
theorem nX9_air : am_nar yX9_air 2 := ⟨⟨by decide +kernel, by decide +kernel⟩, by decide +kernel, (am_ux 61 (by decide +kernel) rfl)⟩
abbrev mX9_tire : am_Y := (cX9_tire, 4, RX9, (Option.some FieldType.int), false, [])
abbrev wX9_tire : Cond := .code yX9_tire cX9_tire 4 (Option.some FieldType.int)
theorem vX9_tire : wX9_tire ∈ am_uw := (am_ux 962 (by decide +kernel) rfl)
theorem nX9_tire : am_nar yX9_tire 2 := ⟨⟨by decide +kernel, by decide +kernel⟩, by decide +kernel, (am_ux 61 (by decide +kernel) rfl)⟩
abbrev mX9_seed : am_Y := (cX9_seed, 3, RX9, (Option.some FieldType.int), false, [])
abbrev wX9_seed : Cond := .code yX9_seed cX9_seed 3 (Option.some FieldType.int)
theorem vX9_seed : wX9_seed ∈ am_uw := (am_ux 970 (by decide +kernel) rfl)
theorem nX9_seed : am_nar yX9_seed 1 := ⟨⟨by decide +kernel, by decide +kernel⟩, by decide +kernel, (am_ux 61 (by decide +kernel) rfl)⟩
abbrev mX9_isDay : am_Y := (cX9_isDay, 1, RX9, (Option.some FieldType.boolean), false, [])
abbrev wX9_isDay : Cond := .code yX9_isDay cX9_isDay 1 (Option.some FieldType.boolean)
theorem vX9_isDay : wX9_isDay ∈ am_uw := (am_ux 1040 (by decide +kernel) rfl)
theorem nX9_isDay : am_nar yX9_isDay 0 := ⟨⟨by decide +kernel, by decide +kernel⟩, by decide +kernel, (am_ux 61 (by decide +kernel) rfl)⟩
abbrev mX9_down : am_Y := (cX9_down, 2, RX9, (Option.some FieldType.int), false, [])
abbrev wX9_down : Cond := .code yX9_down cX9_down 2 (Option.some FieldType.int)
theorem vX9_down : wX9_down ∈ am_uw := (am_ux 1043 (by decide +kernel) rfl)
theorem nX9_down : am_nar yX9_down 2 := ⟨⟨by decide +kernel, by decide +kernel⟩, by decide +kernel, (am_ux 61 (by decide +kernel) rfl)⟩
abbrev mX9_seesAlong : am_Y := (cX9_seesAlong, 6, RX9, (Option.some FieldType.boolean), false, [])
abbrev wX9_seesAlong : Cond := .code yX9_seesAlong cX9_seesAlong 6 (Option.some FieldType.boolean)
theorem vX9_seesAlong : wX9_seesAlong ∈ am_uw := (am_ux 1036 (by decide +kernel) rfl)
theorem nX9_seesAlong : am_nar yX9_seesAlong 1 := ⟨⟨by decide +kernel, by decide +kernel⟩, by decide +kernel, (am_ux 61 (by decide +kernel) rfl)⟩
abbrev mX9_spotOf : am_Y := (cX9_spotOf, 5, RX9, (Option.some FieldType.int), false, [])
abbrev wX9_spotOf : Cond := .code yX9_spotOf cX9_spotOf 5 (Option.some FieldType.int)
theorem vX9_spotOf : wX9_spotOf ∈ am_uw := (am_ux 981 (by decide +kernel) rfl)
theorem nX9_spotOf : am_nar yX9_spotOf 2 := ⟨⟨by decide +kernel, by decide +kernel⟩, by decide +kernel, (am_ux 61 (by decide +kernel) rfl)⟩
abbrev mX9_write : am_Y := (cX9_write, 8, RX9, (Option.some FieldType.int), false, [])
abbrev wX9_write : Cond := .code yX9_write cX9_write 8 (Option.some FieldType.int)
theorem vX9_write : wX9_write ∈ am_uw := (am_ux 974 (by decide +kernel) rfl)
theorem nX9_write : am_nar yX9_write 4 := ⟨⟨by decide +kernel, by decide +kernel⟩, by decide +kernel, (am_ux 61 (by decide +kernel) rfl)⟩
abbrev mX9_type : am_Y := (cX9_type, 2, RX9, (Option.some FieldType.int), false, [])
abbrev wX9_type : Cond := .code yX9_type cX9_type 2 (Option.some FieldType.int)
theorem vX9_type : wX9_type ∈ am_uw := (am_ux 985 (by decide +kernel) rfl)
theorem nX9_type : am_nar yX9_type 1 := ⟨⟨by decide +kernel, by decide +kernel⟩, by decide +kernel, (am_ux 61 (by decide +kernel) rfl)⟩
abbrev mX9_clear : am_Y := (cX9_clear, 2, RX9, (Option.some FieldType.int), false, [])
abbrev wX9_clear : Cond := .code yX9_clear cX9_clear 2 (Option.some FieldType.int)
theorem vX9_clear : wX9_clear ∈ am_uw := (am_ux 989 (by decide +kernel) rfl)
theorem nX9_clear : am_nar yX9_clear 0 := ⟨⟨by decide +kernel, by decide +kernel⟩, by decide +kernel, (am_ux 61 (by decide +kernel) rfl)⟩
abbrev mX9_lowestSpot : am_Y := (cX9_lowestSpot, 5, RX9, (Option.some FieldType.int), false, [])
abbrev wX9_lowestSpot : Cond := .code yX9_lowestSpot cX9_lowestSpot 5 (Option.some FieldType.int)
theorem vX9_lowestSpot : wX9_lowestSpot ∈ am_uw := (am_ux 1001 (by decide +kernel) rfl)
theorem nX9_lowestSpot : am_nar yX9_lowestSpot 2 := ⟨⟨by decide +kernel, by decide +kernel⟩, by decide +kernel, (am_ux 61 (by decide +kernel) rfl)⟩
abbrev mX9_makesSigns : am_Y := (cX9_makesSigns, 6, RX9, (Option.some FieldType.int), false, [])
abbrev wX9_makesSigns : Cond := .code yX9_makesSigns cX9_makesSigns 6 (Option.some FieldType.int)
theorem vX9_makesSigns : wX9_makesSigns ∈ am_uw := (am_ux 997 (by decide +kernel) rfl)
theorem nX9_makesSigns : am_nar yX9_makesSigns 2 := ⟨⟨by decide +kernel, by decide +kernel⟩, by decide +kernel, (am_ux 61 (by decide +kernel) rfl)⟩
abbrev mX9_keepsAt : am_Y := (cX9_keepsAt, 5, RX9, (Option.none : Option FieldType), false, [])
abbrev wX9_keepsAt : Cond := .code yX9_keepsAt cX9_keepsAt 5 (Option.none : Option FieldType)
theorem vX9_keepsAt : wX9_keepsAt ∈ am_uw := (am_ux 1008 (by decide +kernel) rfl)
theorem nX9_keepsAt : am_nar yX9_keepsAt 3 := ⟨⟨by decide +kernel, by decide +kernel⟩, by decide +kernel, (am_ux 61 (by decide +kernel) rfl)⟩
abbrev mX9_send : am_Y := (cX9_send, 8, RX9, (Option.some FieldType.int), false, [])
abbrev wX9_send : Cond := .code yX9_send cX9_send 8 (Option.some FieldType.int)
theorem vX9_send : wX9_send ∈ am_uw := (am_ux 993 (by decide +kernel) rfl)
theorem nX9_send : am_nar yX9_send 3 := ⟨⟨by decide +kernel, by decide +kernel⟩, by decide +kernel, (am_ux 61 (by decide +kernel) rfl)⟩
abbrev mX9_writes : am_Y := (cX9_writes, 5, RX9, (Option.none : Option FieldType), false, [])
abbrev wX9_writes : Cond := .code yX9_writes cX9_writes 5 (Option.none : Option FieldType)
theorem vX9_writes : wX9_writes ∈ am_uw := (am_ux 1020 (by decide +kernel) rfl)
theorem nX9_writes : am_nar yX9_writes 3 := ⟨⟨by decide +kernel, by decide +kernel⟩, by decide +kernel, (am_ux 61 (by decide +kernel) rfl)⟩
abbrev mX9_mark : am_Y := (cX9_mark, 6, RX9, (Option.some FieldType.int), false, [])
abbrev wX9_mark : Cond := .code yX9_mark cX9_mark 6 (Option.some FieldType.int)
theorem vX9_mark : wX9_mark ∈ am_uw := (am_ux 1012 (by decide +kernel) rfl)
theorem nX9_mark : am_nar yX9_mark 3 := ⟨⟨by decide +kernel, by decide +kernel⟩, by decide +kernel, (am_ux 61 (by decide +kernel) rfl)⟩
abbrev mX9_spy : am_Y := (cX9_spy, 2, RX9, (Option.some FieldType.int), false, [])
abbrev wX9_spy : Cond := .code yX9_spy cX9_spy 2 (Option.some FieldType.int)
theorem vX9_spy : wX9_spy ∈ am_uw := (am_ux 1024 (by decide +kernel) rfl)
theorem nX9_spy : am_nar yX9_spy 1 := ⟨⟨by decide +kernel, by decide +kernel⟩, by decide +kernel, (am_ux 61 (by decide +kernel) rfl)⟩
abbrev mX9_opens : am_Y := (cX9_opens, 6, RX9, (Option.none : Option FieldType), false, [])
abbrev wX9_opens : Cond := .code yX9_opens cX9_opens 6 (Option.none : Option FieldType)
theorem vX9_opens : wX9_opens ∈ am_uw := (am_ux 1055 (by decide +kernel) rfl)
theorem nX9_opens : am_nar yX9_opens 2 := ⟨⟨by decide +kernel, by decide +kernel⟩, by decide +kernel, (am_ux 61 (by decide +kernel) rfl)⟩
abbrev mX9_ends : am_Y := (cX9_ends, 5, RX9, (Option.none : Option FieldType), false, [])
abbrev wX9_ends : Cond := .code yX9_ends cX9_ends 5 (Option.none : Option FieldType)
theorem vX9_ends : wX9_ends ∈ am_uw := (am_ux 1059 (by decide +kernel) rfl)
theorem nX9_ends : am_nar yX9_ends 1 := ⟨⟨by decide +kernel, by decide +kernel⟩, by decide +kernel, (am_ux 61 (by decide +kernel) rfl)⟩
abbrev mX9_tapes : am_Y := (cX9_tapes, 5, RX9, (Option.none : Option FieldType), false, [])
abbrev wX9_tapes : Cond := .code yX9_tapes cX9_tapes 5 (Option.none : Option FieldType)
theorem vX9_tapes : wX9_tapes ∈ am_uw := (am_ux 1051 (by decide +kernel) rfl)
theorem nX9_tapes : am_nar yX9_tapes 2 := ⟨⟨by decide +kernel, by decide +kernel⟩, by decide +kernel, (am_ux 61 (by decide +kernel) rfl)⟩
abbrev mX9_reads : am_Y := (cX9_reads, 4, RX9, (Option.some FieldType.int), false, [])
abbrev wX9_reads : Cond := .code yX9_reads cX9_reads 4 (Option.some FieldType.int)
theorem vX9_reads : wX9_reads ∈ am_uw := (am_ux 1047 (by decide +kernel) rfl)
theorem nX9_reads : am_nar yX9_reads 2 := ⟨⟨by decide +kernel, by decide +kernel⟩, by decide +kernel, (am_ux 61 (by decide +kernel) rfl)⟩
abbrev mX9_looks : am_Y := (cX9_looks, 9, RX9, (Option.none : Option FieldType), false, [])
abbrev wX9_looks : Cond := .code yX9_looks cX9_looks 9 (Option.none : Option FieldType)
theorem vX9_looks : wX9_looks ∈ am_uw := (am_ux 1032 (by decide +kernel) rfl)
theorem nX9_looks : am_nar yX9_looks 2 := ⟨⟨by decide +kernel, by decide +kernel⟩, by decide +kernel, (am_ux 61 (by decide +kernel) rfl)⟩
abbrev mX9_spies : am_Y := (cX9_spies, 4, RX9, (Option.none : Option FieldType), false, [])
abbrev wX9_spies : Cond := .code yX9_spies cX9_spies 4 (Option.none : Option FieldType)
theorem vX9_spies : wX9_spies ∈ am_uw := (am_ux 1067 (by decide +kernel) rfl)
theorem nX9_spies : am_nar yX9_spies 2 := ⟨⟨by decide +kernel, by decide +kernel⟩, by decide +kernel, (am_ux 61 (by decide +kernel) rfl)⟩
abbrev mX9_turnsTo : am_Y := (cX9_turnsTo, 5, RX9, (Option.none : Option FieldType), false, [])
abbrev wX9_turnsTo : Cond := .code yX9_turnsTo cX9_turnsTo 5 (Option.none : Option FieldType)
theorem vX9_turnsTo : wX9_turnsTo ∈ am_uw := (am_ux 1063 (by decide +kernel) rfl)
theorem nX9_turnsTo : am_nar yX9_turnsTo 3 := ⟨⟨by decide +kernel, by decide +kernel⟩, by decide +kernel, (am_ux 61 (by decide +kernel) rfl)⟩
abbrev mX9_pass : am_Y := (cX9_pass, 4, RX9, (Option.some FieldType.int), false, [])
abbrev wX9_pass : Cond := .code yX9_pass cX9_pass 4 (Option.some FieldType.int)
theorem vX9_pass : wX9_pass ∈ am_uw := (am_ux 1028 (by decide +kernel) rfl)
theorem nX9_pass : am_nar yX9_pass 1 := ⟨⟨by decide +kernel, by decide +kernel⟩, by decide +kernel, (am_ux 61 (by decide +kernel) rfl)⟩
abbrev mX9_minute : am_Y := (cX9_minute, 1, RX9, (Option.some FieldType.int), false, [])
abbrev wX9_minute : Cond := .code yX9_minute cX9_minute 1 (Option.some FieldType.int)
theorem vX9_minute : wX9_minute ∈ am_uw := (am_ux 1071 (by decide +kernel) rfl)
theorem nX9_minute : am_nar yX9_minute 0 := ⟨⟨by decide +kernel, by decide +kernel⟩, by decide +kernel, (am_ux 61 (by decide +kernel) rfl)⟩
abbrev mX9_towers : am_Y := (cX9_towers, 1, RX9, (Option.some FieldType.int), false, [])
abbrev wX9_towers : Cond := .code yX9_towers cX9_towers 1 (Option.some FieldType.int)
theorem vX9_towers : wX9_towers ∈ am_uw := (am_ux 1075 (by decide +kernel) rfl)
theorem nX9_towers : am_nar yX9_towers 0 := ⟨⟨by decide +kernel, by decide +kernel⟩, by decide +kernel, (am_ux 61 (by decide +kernel) rfl)⟩
abbrev mX9_sees : am_Y := (cX9_sees, 2, RX9, (Option.some FieldType.boolean), false, [])
abbrev wX9_sees : Cond := .code yX9_sees cX9_sees 2 (Option.some FieldType.boolean)
theorem vX9_sees : wX9_sees ∈ am_uw := (am_ux 1079 (by decide +kernel) rfl)
theorem nX9_sees : am_nar yX9_sees 1 := ⟨⟨by decide +kernel, by decide +kernel⟩, by decide +kernel, (am_ux 61 (by decide +kernel) rfl)⟩
abbrev mX9_shows : am_Y := (cX9_shows, 3, RX9, (Option.some FieldType.int), false, [])
abbrev wX9_shows : Cond := .code yX9_shows cX9_shows 3 (Option.some FieldType.int)
theorem vX9_shows : wX9_shows ∈ am_uw := (am_ux 1083 (by decide +kernel) rfl)
theorem nX9_shows : am_nar yX9_shows 2 := ⟨⟨by decide +kernel, by decide +kernel⟩, by decide +kernel, (am_ux 61 (by decide +kernel) rfl)⟩
abbrev mX9_keeps : am_Y := (cX9_keeps, 4, RX9, (Option.some FieldType.int), false, [])
abbrev wX9_keeps : Cond := .code yX9_keeps cX9_keeps 4 (Option.some FieldType.int)
theorem vX9_keeps : wX9_keeps ∈ am_uw := (am_ux 1087 (by decide +kernel) rfl)
theorem nX9_keeps : am_nar yX9_keeps 3 := ⟨⟨by decide +kernel, by decide +kernel⟩, by decide +kernel, (am_ux 61 (by decide +kernel) rfl)⟩
abbrev mX9_logs : am_Y := (cX9_logs, 3, RX9, (Option.some FieldType.int), false, [])
abbrev wX9_logs : Cond := .code yX9_logs cX9_logs 3 (Option.some FieldType.int)
theorem vX9_logs : wX9_logs ∈ am_uw := (am_ux 1091 (by decide +kernel) rfl)
theorem nX9_logs : am_nar yX9_logs 2 := ⟨⟨by decide +kernel, by decide +kernel⟩, by decide +kernel, (am_ux 61 (by decide +kernel) rfl)⟩
abbrev mX9_log : am_Y := (cX9_log, 6, RX9, (Option.some FieldType.int), false, [])
abbrev wX9_log : Cond := .code yX9_log cX9_log 6 (Option.some FieldType.int)
theorem vX9_log : wX9_log ∈ am_uw := (am_ux 1095 (by decide +kernel) rfl)
theorem nX9_log : am_nar yX9_log 4 := ⟨⟨by decide +kernel, by decide +kernel⟩, by decide +kernel, (am_ux 61 (by decide +kernel) rfl)⟩
abbrev mX9_nextRead : am_Y := (cX9_nextRead, 4, RX9, (Option.some FieldType.int), false, [])
abbrev wX9_nextRead : Cond := .code yX9_nextRead cX9_nextRead 4 (Option.some FieldType.int)
theorem vX9_nextRead : wX9_nextRead ∈ am_uw := (am_ux 1103 (by decide +kernel) rfl)
theorem nX9_nextRead : am_nar yX9_nextRead 2 := ⟨⟨by decide +kernel, by decide +kernel⟩, by decide +kernel, (am_ux 61 (by decide +kernel) rfl)⟩
abbrev mX9_differs : am_Y := (cX9_differs, 9, RX9, (Option.some FieldType.int), false, [])
abbrev wX9_differs : Cond := .code yX9_differs cX9_differs 9 (Option.some FieldType.int)
theorem vX9_differs : wX9_differs ∈ am_uw := (am_ux 1099 (by decide +kernel) rfl)
theorem nX9_differs : am_nar yX9_differs 3 := ⟨⟨by decide +kernel, by decide +kernel⟩, by decide +kernel, (am_ux 61 (by decide +kernel) rfl)⟩
abbrev mX9_came : am_Y := (cX9_came, 2, RX9, (Option.some FieldType.int), false, [])
abbrev wX9_came : Cond := .code yX9_came cX9_came 2 (Option.some FieldType.int)
theorem vX9_came : wX9_came ∈ am_uw := (am_ux 1107 (by decide +kernel) rfl)
theorem nX9_came : am_nar yX9_came 1 := ⟨⟨by decide +kernel, by decide +kernel⟩, by decide +kernel, (am_ux 61 (by decide +kernel) rfl)⟩
abbrev mX9_told : am_Y := (cX9_told, 6, RX9, (Option.some FieldType.int), false, [])
abbrev wX9_told : Cond := .code yX9_told cX9_told 6 (Option.some FieldType.int)
theorem vX9_told : wX9_told ∈ am_uw := (am_ux 1111 (by decide +kernel) rfl)
theorem nX9_told : am_nar yX9_told 3 := ⟨⟨by decide +kernel, by decide +kernel⟩, by decide +kernel, (am_ux 61 (by decide +kernel) rfl)⟩
abbrev mX9_phrase : am_Y := (cX9_phrase, 9, RX9, (Option.some FieldType.int), false, [])
abbrev wX9_phrase : Cond := .code yX9_phrase cX9_phrase 9 (Option.some FieldType.int)
theorem vX9_phrase : wX9_phrase ∈ am_uw := (am_ux 1115 (by decide +kernel) rfl)
theorem nX9_phrase : am_nar yX9_phrase 4 := ⟨⟨by decide +kernel, by decide +kernel⟩, by decide +kernel, (am_ux 61 (by decide +kernel) rfl)⟩
abbrev mX9_open : am_Y := (cX9_open, 2, RX9, (Option.some FieldType.int), false, [])
abbrev wX9_open : Cond := .code yX9_open cX9_open 2 (Option.some FieldType.int)
theorem vX9_open : wX9_open ∈ am_uw := (am_ux 1119 (by decide +kernel) rfl)
theorem nX9_open : am_nar yX9_open 1 := ⟨⟨by decide +kernel, by decide +kernel⟩, by decide +kernel, (am_ux 61 (by decide +kernel) rfl)⟩
abbrev mX9_seen : am_Y := (cX9_seen, 2, RX9, (Option.some FieldType.int), false, [])
abbrev wX9_seen : Cond := .code yX9_seen cX9_seen 2 (Option.some FieldType.int)
theorem vX9_seen : wX9_seen ∈ am_uw := (am_ux 1123 (by decide +kernel) rfl)
theorem nX9_seen : am_nar yX9_seen 1 := ⟨⟨by decide +kernel, by decide +kernel⟩, by decide +kernel, (am_ux 61 (by decide +kernel) rfl)⟩
abbrev mX9_tries : am_Y := (cX9_tries, 5, RX9, (Option.some FieldType.int), false, [])
abbrev wX9_tries : Cond := .code yX9_tries cX9_tries 5 (Option.some FieldType.int)
theorem vX9_tries : wX9_tries ∈ am_uw := (am_ux 1127 (by decide +kernel) rfl)
theorem nX9_tries : am_nar yX9_tries 2 := ⟨⟨by decide +kernel, by decide +kernel⟩, by decide +kernel, (am_ux 61 (by decide +kernel) rfl)⟩
abbrev mX9_comes : am_Y := (cX9_comes, 2, RX9, (Option.some FieldType.int), false, [])
abbrev wX9_comes : Cond := .code yX9_comes cX9_comes 2 (Option.some FieldType.int)
theorem vX9_comes : wX9_comes ∈ am_uw := (am_ux 1131 (by decide +kernel) rfl)
theorem nX9_comes : am_nar yX9_comes 1 := ⟨⟨by decide +kernel, by decide +kernel⟩, by decide +kernel, (am_ux 61 (by decide +kernel) rfl)⟩
abbrev mX9_comesAnew : am_Y := (cX9_comesAnew, 2, RX9, (Option.some FieldType.int), false, [])
abbrev wX9_comesAnew : Cond := .code yX9_comesAnew cX9_comesAnew 2 (Option.some FieldType.int)
theorem vX9_comesAnew : wX9_comesAnew ∈ am_uw := (am_ux 1135 (by decide +kernel) rfl)
theorem nX9_comesAnew : am_nar yX9_comesAnew 1 := ⟨⟨by decide +kernel, by decide +kernel⟩, by decide +kernel, (am_ux 61 (by decide +kernel) rfl)⟩
abbrev mJ9_min_7cf53 : am_Y := (cJ9_min_7cf53, 2, RJ9, (Option.some FieldType.int), false, [])
abbrev wJ9_min_7cf53 : Cond := .code yJ9_min_7cf53 cJ9_min_7cf53 2 (Option.some FieldType.int)
theorem vJ9_min_7cf53 : wJ9_min_7cf53 ∈ am_uw := (am_ux 593 (by decide +kernel) rfl)
theorem nJ9_min_7cf53 : am_nar yJ9_min_7cf53 2 := ⟨⟨by decide +kernel, by decide +kernel⟩, by decide +kernel, (am_ux 74 (by decide +kernel) rfl)⟩
abbrev mL_tower : am_Y := (cL_tower, 5, RL, (Option.some FieldType.int), false, [(0, 10, 13, 13), (0, 10, 17, 15)])
abbrev wL_tower : Cond := .codeWith yL_tower cL_tower 5 (Option.some FieldType.int) [(0, 10, 13, 13), (0, 10, 17, 15)]
theorem vL_tower : wL_tower ∈ am_uw := (am_ux 204 (by decide +kernel) rfl)
theorem nL_tower : am_nar yL_tower 4 := ⟨⟨by decide +kernel, by decide +kernel⟩, by decide +kernel, (am_ux 57 (by decide +kernel) rfl)⟩
abbrev mL_hill : am_Y := (cL_hill, 6, RL, (Option.some FieldType.int), false, [(0, 12, 15, 21), (0, 12, 19, 13), (0, 12, 23, 15)])
abbrev wL_hill : Cond := .codeWith yL_hill cL_hill 6 (Option.some FieldType.int) [(0, 12, 15, 21), (0, 12, 19, 13), (0, 12, 23, 15)]
theorem vL_hill : wL_hill ∈ am_uw := (am_ux 393 (by decide +kernel) rfl)
theorem nL_hill : am_nar yL_hill 5 := ⟨⟨by decide +kernel, by decide +kernel⟩, by decide +kernel, (am_ux 57 (by decide +kernel) rfl)⟩
abbrev mL_air : am_Y := (cL_air, 5, RL, (Option.some FieldType.int), false, [(0, 10, 13, 21), (0, 10, 17, 13)])
abbrev wL_air : Cond := .codeWith yL_air cL_air 5 (Option.some FieldType.int) [(0, 10, 13, 21), (0, 10, 17, 13)]
theorem vL_air : wL_air ∈ am_uw := (am_ux 427 (by decide +kernel) rfl)
theorem nL_air : am_nar yL_air 4 := ⟨⟨by decide +kernel, by decide +kernel⟩, by decide +kernel, (am_ux 57 (by decide +kernel) rfl)⟩
abbrev mL_tire : am_Y := (cL_tire, 5, RL, (Option.some FieldType.int), false, [(0, 10, 13, 21), (0, 10, 17, 13)])
abbrev wL_tire : Cond := .codeWith yL_tire cL_tire 5 (Option.some FieldType.int) [(0, 10, 13, 21), (0, 10, 17, 13)]
theorem vL_tire : wL_tire ∈ am_uw := (am_ux 435 (by decide +kernel) rfl)
theorem nL_tire : am_nar yL_tire 4 := ⟨⟨by decide +kernel, by decide +kernel⟩, by decide +kernel, (am_ux 57 (by decide +kernel) rfl)⟩
abbrev mL_seed : am_Y := (cL_seed, 4, RL, (Option.some FieldType.int), false, [(0, 9, 12, 13)])
abbrev wL_seed : Cond := .codeWith yL_seed cL_seed 4 (Option.some FieldType.int) [(0, 9, 12, 13)]
theorem vL_seed : wL_seed ∈ am_uw := (am_ux 448 (by decide +kernel) rfl)
theorem nL_seed : am_nar yL_seed 3 := ⟨⟨by decide +kernel, by decide +kernel⟩, by decide +kernel, (am_ux 57 (by decide +kernel) rfl)⟩
abbrev mL_write : am_Y := (cL_write, 7, RL, (Option.some FieldType.int), false, [(0, 14, 17, 21), (0, 14, 21, 13), (0, 14, 25, 15)])
abbrev wL_write : Cond := .codeWith yL_write cL_write 7 (Option.some FieldType.int) [(0, 14, 17, 21), (0, 14, 21, 13), (0, 14, 25, 15)]
theorem vL_write : wL_write ∈ am_uw := (am_ux 456 (by decide +kernel) rfl)
theorem nL_write : am_nar yL_write 6 := ⟨⟨by decide +kernel, by decide +kernel⟩, by decide +kernel, (am_ux 57 (by decide +kernel) rfl)⟩
abbrev mL_type : am_Y := (cL_type, 4, RL, (Option.some FieldType.int), false, [(0, 9, 12, 13), (0, 9, 15, 15)])
abbrev wL_type : Cond := .codeWith yL_type cL_type 4 (Option.some FieldType.int) [(0, 9, 12, 13), (0, 9, 15, 15)]
theorem vL_type : wL_type ∈ am_uw := (am_ux 493 (by decide +kernel) rfl)
theorem nL_type : am_nar yL_type 3 := ⟨⟨by decide +kernel, by decide +kernel⟩, by decide +kernel, (am_ux 57 (by decide +kernel) rfl)⟩
abbrev mL_send : am_Y := (cL_send, 6, RL, (Option.some FieldType.int), false, [(0, 12, 15, 21), (0, 12, 19, 15)])
abbrev wL_send : Cond := .codeWith yL_send cL_send 6 (Option.some FieldType.int) [(0, 12, 15, 21), (0, 12, 19, 15)]
theorem vL_send : wL_send ∈ am_uw := (am_ux 502 (by decide +kernel) rfl)
theorem nL_send : am_nar yL_send 5 := ⟨⟨by decide +kernel, by decide +kernel⟩, by decide +kernel, (am_ux 57 (by decide +kernel) rfl)⟩
abbrev mL_mark : am_Y := (cL_mark, 6, RL, (Option.some FieldType.int), false, [(0, 12, 15, 21), (0, 12, 19, 15)])
abbrev wL_mark : Cond := .codeWith yL_mark cL_mark 6 (Option.some FieldType.int) [(0, 12, 15, 21), (0, 12, 19, 15)]
theorem vL_mark : wL_mark ∈ am_uw := (am_ux 527 (by decide +kernel) rfl)
theorem nL_mark : am_nar yL_mark 5 := ⟨⟨by decide +kernel, by decide +kernel⟩, by decide +kernel, (am_ux 57 (by decide +kernel) rfl)⟩
abbrev mL_spy : am_Y := (cL_spy, 4, RL, (Option.some FieldType.int), false, [(0, 9, 12, 21), (0, 9, 15, 15)])
abbrev wL_spy : Cond := .codeWith yL_spy cL_spy 4 (Option.some FieldType.int) [(0, 9, 12, 21), (0, 9, 15, 15)]
theorem vL_spy : wL_spy ∈ am_uw := (am_ux 551 (by decide +kernel) rfl)
theorem nL_spy : am_nar yL_spy 3 := ⟨⟨by decide +kernel, by decide +kernel⟩, by decide +kernel, (am_ux 57 (by decide +kernel) rfl)⟩
abbrev mL_pass : am_Y := (cL_pass, 4, RL, (Option.some FieldType.int), false, [(0, 9, 12, 13)])
abbrev wL_pass : Cond := .codeWith yL_pass cL_pass 4 (Option.some FieldType.int) [(0, 9, 12, 13)]
theorem vL_pass : wL_pass ∈ am_uw := (am_ux 577 (by decide +kernel) rfl)
theorem nL_pass : am_nar yL_pass 3 := ⟨⟨by decide +kernel, by decide +kernel⟩, by decide +kernel, (am_ux 57 (by decide +kernel) rfl)⟩
abbrev mL_sees : am_Y := (cL_sees, 4, RL, (Option.some FieldType.int), false, [(0, 16, 19, 21)])
abbrev wL_sees : Cond := .codeWith yL_sees cL_sees 4 (Option.some FieldType.int) [(0, 16, 19, 21)]
theorem vL_sees : wL_sees ∈ am_uw := (am_ux 676 (by decide +kernel) rfl)
theorem nL_sees : am_nar yL_sees 3 := ⟨⟨by decide +kernel, by decide +kernel⟩, by decide +kernel, (am_ux 57 (by decide +kernel) rfl)⟩
abbrev mL_shows : am_Y := (cL_shows, 5, RL, (Option.some FieldType.int), false, [(0, 10, 13, 21)])
abbrev wL_shows : Cond := .codeWith yL_shows cL_shows 5 (Option.some FieldType.int) [(0, 10, 13, 21)]
theorem vL_shows : wL_shows ∈ am_uw := (am_ux 683 (by decide +kernel) rfl)
theorem nL_shows : am_nar yL_shows 4 := ⟨⟨by decide +kernel, by decide +kernel⟩, by decide +kernel, (am_ux 57 (by decide +kernel) rfl)⟩
abbrev mL_keeps : am_Y := (cL_keeps, 6, RL, (Option.some FieldType.int), false, [(0, 12, 15, 21)])
abbrev wL_keeps : Cond := .codeWith yL_keeps cL_keeps 6 (Option.some FieldType.int) [(0, 12, 15, 21)]
theorem vL_keeps : wL_keeps ∈ am_uw := (am_ux 690 (by decide +kernel) rfl)
theorem nL_keeps : am_nar yL_keeps 5 := ⟨⟨by decide +kernel, by decide +kernel⟩, by decide +kernel, (am_ux 57 (by decide +kernel) rfl)⟩
abbrev mL_logs : am_Y := (cL_logs, 5, RL, (Option.some FieldType.int), false, [(0, 10, 13, 21)])
abbrev wL_logs : Cond := .codeWith yL_logs cL_logs 5 (Option.some FieldType.int) [(0, 10, 13, 21)]
theorem vL_logs : wL_logs ∈ am_uw := (am_ux 698 (by decide +kernel) rfl)
theorem nL_logs : am_nar yL_logs 4 := ⟨⟨by decide +kernel, by decide +kernel⟩, by decide +kernel, (am_ux 57 (by decide +kernel) rfl)⟩
abbrev mL_log : am_Y := (cL_log, 7, RL, (Option.some FieldType.int), false, [(0, 14, 17, 21), (0, 14, 21, 13)])
abbrev wL_log : Cond := .codeWith yL_log cL_log 7 (Option.some FieldType.int) [(0, 14, 17, 21), (0, 14, 21, 13)]
theorem vL_log : wL_log ∈ am_uw := (am_ux 705 (by decide +kernel) rfl)
theorem nL_log : am_nar yL_log 6 := ⟨⟨by decide +kernel, by decide +kernel⟩, by decide +kernel, (am_ux 57 (by decide +kernel) rfl)⟩
abbrev mL_differs : am_Y := (cL_differs, 6, RL, (Option.some FieldType.int), false, [(0, 12, 15, 21)])
abbrev wL_differs : Cond := .codeWith yL_differs cL_differs 6 (Option.some FieldType.int) [(0, 12, 15, 21)]
theorem vL_differs : wL_differs ∈ am_uw := (am_ux 718 (by decide +kernel) rfl)
theorem nL_differs : am_nar yL_differs 5 := ⟨⟨by decide +kernel, by decide +kernel⟩, by decide +kernel, (am_ux 57 (by decide +kernel) rfl)⟩
abbrev mL_told : am_Y := (cL_told, 6, RL, (Option.some FieldType.int), false, [(0, 12, 15, 21), (0, 12, 19, 13)])
abbrev wL_told : Cond := .codeWith yL_told cL_told 6 (Option.some FieldType.int) [(0, 12, 15, 21), (0, 12, 19, 13)]
theorem vL_told : wL_told ∈ am_uw := (am_ux 732 (by decide +kernel) rfl)
theorem nL_told : am_nar yL_told 5 := ⟨⟨by decide +kernel, by decide +kernel⟩, by decide +kernel, (am_ux 57 (by decide +kernel) rfl)⟩
abbrev mL_phrase : am_Y := (cL_phrase, 7, RL, (Option.some FieldType.int), false, [(0, 14, 17, 21)])
abbrev wL_phrase : Cond := .codeWith yL_phrase cL_phrase 7 (Option.some FieldType.int) [(0, 14, 17, 21)]
theorem vL_phrase : wL_phrase ∈ am_uw := (am_ux 752 (by decide +kernel) rfl)
theorem nL_phrase : am_nar yL_phrase 6 := ⟨⟨by decide +kernel, by decide +kernel⟩, by decide +kernel, (am_ux 57 (by decide +kernel) rfl)⟩
abbrev mL_seen : am_Y := (cL_seen, 4, RL, (Option.some FieldType.int), false, [(0, 9, 12, 21)])
abbrev wL_seen : Cond := .codeWith yL_seen cL_seen 4 (Option.some FieldType.int) [(0, 9, 12, 21)]
theorem vL_seen : wL_seen ∈ am_uw := (am_ux 761 (by decide +kernel) rfl)
theorem nL_seen : am_nar yL_seen 3 := ⟨⟨by decide +kernel, by decide +kernel⟩, by decide +kernel, (am_ux 57 (by decide +kernel) rfl)⟩
abbrev mL_tries : am_Y := (cL_tries, 5, RL, (Option.some FieldType.int), false, [(0, 10, 13, 21)])
abbrev wL_tries : Cond := .codeWith yL_tries cL_tries 5 (Option.some FieldType.int) [(0, 10, 13, 21)]
theorem vL_tries : wL_tries ∈ am_uw := (am_ux 773 (by decide +kernel) rfl)
theorem nL_tries : am_nar yL_tries 4 := ⟨⟨by decide +kernel, by decide +kernel⟩, by decide +kernel, (am_ux 57 (by decide +kernel) rfl)⟩
abbrev mL_comes : am_Y := (cL_comes, 4, RL, (Option.some FieldType.int), false, [(0, 9, 12, 13)])
abbrev wL_comes : Cond := .codeWith yL_comes cL_comes 4 (Option.some FieldType.int) [(0, 9, 12, 13)]
theorem vL_comes : wL_comes ∈ am_uw := (am_ux 780 (by decide +kernel) rfl)
theorem nL_comes : am_nar yL_comes 3 := ⟨⟨by decide +kernel, by decide +kernel⟩, by decide +kernel, (am_ux 57 (by decide +kernel) rfl)⟩
abbrev mL_comesAnew : am_Y := (cL_comesAnew, 4, RL, (Option.some FieldType.int), false, [(0, 9, 12, 13)])
abbrev wL_comesAnew : Cond := .codeWith yL_comesAnew cL_comesAnew 4 (Option.some FieldType.int) [(0, 9, 12, 13)]
theorem vL_comesAnew : wL_comesAnew ∈ am_uw := (am_ux 788 (by decide +kernel) rfl)
theorem nL_comesAnew : am_nar yL_comesAnew 3 := ⟨⟨by decide +kernel, by decide +kernel⟩, by decide +kernel, (am_ux 57 (by decide +kernel) rfl)⟩
abbrev mL_law : am_Y := (cL_law, 7, RL, some .boolean, false, [])
theorem fX0_9 : am_fl RX0 9 0 0 := ⟨_, rfl, by decide, Or.inl (am_ux 331 (by decide +kernel) rfl)⟩
theorem fX0_15 : am_fl RX0 15 0 3 := ⟨_, rfl, by decide, Or.inl (am_ux 336 (by decide +kernel) rfl)⟩
theorem fX0_22 : am_fl RX0 22 0 4 := ⟨_, rfl, by decide, Or.inl (am_ux 338 (by decide +kernel) rfl)⟩
theorem fX0_26 : am_fl RX0 26 0 1 := ⟨_, rfl, by decide, Or.inl (am_ux 333 (by decide +kernel) rfl)⟩
theorem fX0_29 : am_fl RX0 29 0 2 := ⟨_, rfl, by decide, Or.inl (am_ux 335 (by decide +kernel) rfl)⟩
theorem fX1_9 : am_fl RX1 9 1 0 := ⟨_, rfl, by decide, Or.inl (am_ux 95 (by decide +kernel) rfl)⟩
theorem fX1_15 : am_fl RX1 15 1 1 := ⟨_, rfl, by decide, Or.inl (am_ux 96 (by decide +kernel) rfl)⟩
theorem fX1_18 : am_fl RX1 18 1 2 := ⟨_, rfl, by decide, Or.inl (am_ux 97 (by decide +kernel) rfl)⟩
theorem fX2_9 : am_fl RX2 9 2 0 := ⟨_, rfl, by decide, Or.inl (am_ux 627 (by decide +kernel) rfl)⟩
theorem fX2_15 : am_fl RX2 15 2 2 := ⟨_, rfl, by decide, Or.inl (am_ux 630 (by decide +kernel) rfl)⟩
theorem fX2_19 : am_fl RX2 19 2 5 := ⟨_, rfl, by decide, Or.inl (am_ux 635 (by decide +kernel) rfl)⟩
theorem fX2_23 : am_fl RX2 23 2 3 := ⟨_, rfl, by decide, Or.inl (am_ux 632 (by decide +kernel) rfl)⟩
theorem fX2_27 : am_fl RX2 27 2 4 := ⟨_, rfl, by decide, Or.inl (am_ux 634 (by decide +kernel) rfl)⟩
theorem fX2_30 : am_fl RX2 30 2 1 := ⟨_, rfl, by decide, Or.inl (am_ux 628 (by decide +kernel) rfl)⟩
theorem fX3_9 : am_fl RX3 9 3 0 := ⟨_, rfl, by decide, Or.inl (am_ux 315 (by decide +kernel) rfl)⟩
theorem fX3_15 : am_fl RX3 15 3 1 := ⟨_, rfl, by decide, Or.inl (am_ux 316 (by decide +kernel) rfl)⟩
theorem fX3_18 : am_fl RX3 18 3 2 := ⟨_, rfl, by decide, Or.inl (am_ux 318 (by decide +kernel) rfl)⟩
theorem fX3_22 : am_fl RX3 22 3 3 := ⟨_, rfl, by decide, Or.inl (am_ux 319 (by decide +kernel) rfl)⟩
theorem fX4_9 : am_fl RX4 9 4 0 := ⟨_, rfl, by decide, Or.inl (am_ux 562 (by decide +kernel) rfl)⟩
theorem fX4_15 : am_fl RX4 15 4 1 := ⟨_, rfl, by decide, Or.inl (am_ux 564 (by decide +kernel) rfl)⟩
theorem fX4_19 : am_fl RX4 19 4 2 := ⟨_, rfl, by decide, Or.inl (am_ux 566 (by decide +kernel) rfl)⟩
theorem fX5_9 : am_fl RX5 9 5 0 := ⟨_, rfl, by decide, Or.inl (am_ux 372 (by decide +kernel) rfl)⟩
theorem fX5_15 : am_fl RX5 15 5 1 := ⟨_, rfl, by decide, Or.inl (am_ux 374 (by decide +kernel) rfl)⟩
theorem fX5_19 : am_fl RX5 19 5 2 := ⟨_, rfl, by decide, Or.inl (am_ux 375 (by decide +kernel) rfl)⟩
theorem fX5_22 : am_fl RX5 22 5 3 := ⟨_, rfl, by decide, Or.inl (am_ux 376 (by decide +kernel) rfl)⟩
theorem fX5_25 : am_fl RX5 25 5 4 := ⟨_, rfl, by decide, Or.inl (am_ux 378 (by decide +kernel) rfl)⟩
theorem fX6_11 : am_fl RX6 11 6 0 := ⟨_, rfl, by decide, Or.inl (am_ux 114 (by decide +kernel) rfl)⟩
theorem fX6_17 : am_fl RX6 17 6 4 := ⟨_, rfl, by decide, Or.inl (am_ux 121 (by decide +kernel) rfl)⟩
theorem fX6_32 : am_fl RX6 32 6 2 := ⟨_, rfl, by decide, Or.inl (am_ux 118 (by decide +kernel) rfl)⟩
theorem fX6_39 : am_fl RX6 39 2 2 := ⟨_, rfl, by decide, Or.inr ⟨"ArmtowerLine", List.mem_of_getElem? (i := 631) (by decide +kernel)⟩⟩
theorem fX6_45 : am_fl RX6 45 6 3 := ⟨_, rfl, by decide, Or.inl (am_ux 119 (by decide +kernel) rfl)⟩
theorem fX6_49 : am_fl RX6 49 2 5 := ⟨_, rfl, by decide, Or.inr ⟨"ArmtowerLine", List.mem_of_getElem? (i := 636) (by decide +kernel)⟩⟩
theorem fX6_52 : am_fl RX6 52 2 1 := ⟨_, rfl, by decide, Or.inr ⟨"ArmtowerLine", List.mem_of_getElem? (i := 629) (by decide +kernel)⟩⟩
theorem fX6_55 : am_fl RX6 55 6 1 := ⟨_, rfl, by decide, Or.inl (am_ux 116 (by decide +kernel) rfl)⟩
theorem fX7_7 : am_fl RX7 7 7 0 := ⟨_, rfl, by decide, Or.inl (am_ux 351 (by decide +kernel) rfl)⟩
theorem fX7_16 : am_fl RX7 16 7 2 := ⟨_, rfl, by decide, Or.inl (am_ux 354 (by decide +kernel) rfl)⟩
theorem fX7_20 : am_fl RX7 20 7 3 := ⟨_, rfl, by decide, Or.inl (am_ux 356 (by decide +kernel) rfl)⟩
theorem fX8_11 : am_fl RX8 11 8 0 := ⟨_, rfl, by decide, Or.inl (am_ux 135 (by decide +kernel) rfl)⟩
theorem fX8_17 : am_fl RX8 17 8 1 := ⟨_, rfl, by decide, Or.inl (am_ux 136 (by decide +kernel) rfl)⟩
theorem fX8_21 : am_fl RX8 21 8 4 := ⟨_, rfl, by decide, Or.inl (am_ux 139 (by decide +kernel) rfl)⟩
theorem fX8_27 : am_fl RX8 27 8 6 := ⟨_, rfl, by decide, Or.inl (am_ux 141 (by decide +kernel) rfl)⟩
theorem fX8_32 : am_fl RX8 32 8 7 := ⟨_, rfl, by decide, Or.inl (am_ux 142 (by decide +kernel) rfl)⟩
theorem fX8_36 : am_fl RX8 36 8 9 := ⟨_, rfl, by decide, Or.inl (am_ux 144 (by decide +kernel) rfl)⟩
theorem fX8_42 : am_fl RX8 42 8 10 := ⟨_, rfl, by decide, Or.inl (am_ux 145 (by decide +kernel) rfl)⟩
theorem fX8_46 : am_fl RX8 46 8 11 := ⟨_, rfl, by decide, Or.inl (am_ux 146 (by decide +kernel) rfl)⟩
theorem fX8_51 : am_fl RX8 51 8 12 := ⟨_, rfl, by decide, Or.inl (am_ux 147 (by decide +kernel) rfl)⟩
theorem fX8_66 : am_fl RX8 66 8 2 := ⟨_, rfl, by decide, Or.inl (am_ux 137 (by decide +kernel) rfl)⟩
theorem fX8_69 : am_fl RX8 69 8 3 := ⟨_, rfl, by decide, Or.inl (am_ux 138 (by decide +kernel) rfl)⟩
theorem fX8_86 : am_fl RX8 86 5 0 := ⟨_, rfl, by decide, Or.inr ⟨"ArmtowerLine", List.mem_of_getElem? (i := 373) (by decide +kernel)⟩⟩
theorem fX8_97 : am_fl RX8 97 5 3 := ⟨_, rfl, by decide, Or.inr ⟨"ArmtowerLine", List.mem_of_getElem? (i := 377) (by decide +kernel)⟩⟩
theorem fX8_102 : am_fl RX8 102 5 4 := ⟨_, rfl, by decide, Or.inr ⟨"ArmtowerLine", List.mem_of_getElem? (i := 379) (by decide +kernel)⟩⟩
theorem fX8_111 : am_fl RX8 111 7 1 := ⟨_, rfl, by decide, Or.inr ⟨"ArmtowerLine", List.mem_of_getElem? (i := 353) (by decide +kernel)⟩⟩
theorem fX8_116 : am_fl RX8 116 8 5 := ⟨_, rfl, by decide, Or.inl (am_ux 140 (by decide +kernel) rfl)⟩
theorem fX8_140 : am_fl RX8 140 8 8 := ⟨_, rfl, by decide, Or.inl (am_ux 143 (by decide +kernel) rfl)⟩
theorem fX8_153 : am_fl RX8 153 7 3 := ⟨_, rfl, by decide, Or.inr ⟨"ArmtowerLine", List.mem_of_getElem? (i := 357) (by decide +kernel)⟩⟩
theorem fX8_157 : am_fl RX8 157 7 2 := ⟨_, rfl, by decide, Or.inr ⟨"ArmtowerLine", List.mem_of_getElem? (i := 355) (by decide +kernel)⟩⟩
theorem fX8_168 : am_fl RX8 168 0 1 := ⟨_, rfl, by decide, Or.inr ⟨"ArmtowerLine", List.mem_of_getElem? (i := 334) (by decide +kernel)⟩⟩
theorem fX8_185 : am_fl RX8 185 0 4 := ⟨_, rfl, by decide, Or.inr ⟨"ArmtowerLine", List.mem_of_getElem? (i := 339) (by decide +kernel)⟩⟩
theorem fX8_195 : am_fl RX8 195 8 13 := ⟨_, rfl, by decide, Or.inl (am_ux 148 (by decide +kernel) rfl)⟩
theorem fX8_209 : am_fl RX8 209 0 3 := ⟨_, rfl, by decide, Or.inr ⟨"ArmtowerLine", List.mem_of_getElem? (i := 337) (by decide +kernel)⟩⟩
theorem fX8_217 : am_fl RX8 217 0 0 := ⟨_, rfl, by decide, Or.inr ⟨"ArmtowerLine", List.mem_of_getElem? (i := 332) (by decide +kernel)⟩⟩
theorem fX8_220 : am_fl RX8 220 3 3 := ⟨_, rfl, by decide, Or.inr ⟨"ArmtowerLine", List.mem_of_getElem? (i := 320) (by decide +kernel)⟩⟩
theorem fX8_236 : am_fl RX8 236 6 1 := ⟨_, rfl, by decide, Or.inr ⟨"ArmtowerLine", List.mem_of_getElem? (i := 117) (by decide +kernel)⟩⟩
theorem fX8_253 : am_fl RX8 253 2 3 := ⟨_, rfl, by decide, Or.inr ⟨"ArmtowerLine", List.mem_of_getElem? (i := 633) (by decide +kernel)⟩⟩
theorem fX8_256 : am_fl RX8 256 6 3 := ⟨_, rfl, by decide, Or.inr ⟨"ArmtowerLine", List.mem_of_getElem? (i := 120) (by decide +kernel)⟩⟩
theorem fX8_263 : am_fl RX8 263 4 2 := ⟨_, rfl, by decide, Or.inr ⟨"ArmtowerLine", List.mem_of_getElem? (i := 567) (by decide +kernel)⟩⟩
theorem fX8_264 : am_fl RX8 264 4 1 := ⟨_, rfl, by decide, Or.inr ⟨"ArmtowerLine", List.mem_of_getElem? (i := 565) (by decide +kernel)⟩⟩
theorem fX8_280 : am_fl RX8 280 6 0 := ⟨_, rfl, by decide, Or.inr ⟨"ArmtowerLine", List.mem_of_getElem? (i := 115) (by decide +kernel)⟩⟩
theorem fX8_288 : am_fl RX8 288 7 0 := ⟨_, rfl, by decide, Or.inr ⟨"ArmtowerLine", List.mem_of_getElem? (i := 352) (by decide +kernel)⟩⟩
theorem fX8_322 : am_fl RX8 322 4 0 := ⟨_, rfl, by decide, Or.inr ⟨"ArmtowerLine", List.mem_of_getElem? (i := 563) (by decide +kernel)⟩⟩
theorem fX8_331 : am_fl RX8 331 3 1 := ⟨_, rfl, by decide, Or.inr ⟨"ArmtowerLine", List.mem_of_getElem? (i := 317) (by decide +kernel)⟩⟩
theorem fX9_7 : am_fl RX9 7 9 1 := ⟨_, rfl, by decide, Or.inl (am_ux 807 (by decide +kernel) rfl)⟩
theorem fX9_13 : am_fl RX9 13 9 4 := ⟨_, rfl, by decide, Or.inl (am_ux 810 (by decide +kernel) rfl)⟩
theorem fX9_17 : am_fl RX9 17 9 5 := ⟨_, rfl, by decide, Or.inl (am_ux 811 (by decide +kernel) rfl)⟩
theorem fX9_20 : am_fl RX9 20 9 6 := ⟨_, rfl, by decide, Or.inl (am_ux 812 (by decide +kernel) rfl)⟩
theorem fX9_23 : am_fl RX9 23 9 7 := ⟨_, rfl, by decide, Or.inl (am_ux 813 (by decide +kernel) rfl)⟩
theorem fX9_26 : am_fl RX9 26 9 8 := ⟨_, rfl, by decide, Or.inl (am_ux 814 (by decide +kernel) rfl)⟩
theorem fX9_29 : am_fl RX9 29 9 9 := ⟨_, rfl, by decide, Or.inl (am_ux 815 (by decide +kernel) rfl)⟩
theorem fX9_32 : am_fl RX9 32 9 10 := ⟨_, rfl, by decide, Or.inl (am_ux 816 (by decide +kernel) rfl)⟩
theorem fX9_35 : am_fl RX9 35 9 12 := ⟨_, rfl, by decide, Or.inl (am_ux 818 (by decide +kernel) rfl)⟩
theorem fX9_38 : am_fl RX9 38 9 13 := ⟨_, rfl, by decide, Or.inl (am_ux 819 (by decide +kernel) rfl)⟩
theorem fX9_41 : am_fl RX9 41 9 14 := ⟨_, rfl, by decide, Or.inl (am_ux 820 (by decide +kernel) rfl)⟩
theorem fX9_44 : am_fl RX9 44 9 15 := ⟨_, rfl, by decide, Or.inl (am_ux 821 (by decide +kernel) rfl)⟩
theorem fX9_47 : am_fl RX9 47 9 16 := ⟨_, rfl, by decide, Or.inl (am_ux 822 (by decide +kernel) rfl)⟩
theorem fX9_51 : am_fl RX9 51 9 17 := ⟨_, rfl, by decide, Or.inl (am_ux 823 (by decide +kernel) rfl)⟩
theorem fX9_54 : am_fl RX9 54 9 18 := ⟨_, rfl, by decide, Or.inl (am_ux 824 (by decide +kernel) rfl)⟩
theorem fX9_57 : am_fl RX9 57 9 19 := ⟨_, rfl, by decide, Or.inl (am_ux 825 (by decide +kernel) rfl)⟩
theorem fX9_60 : am_fl RX9 60 9 20 := ⟨_, rfl, by decide, Or.inl (am_ux 826 (by decide +kernel) rfl)⟩
theorem fX9_63 : am_fl RX9 63 9 21 := ⟨_, rfl, by decide, Or.inl (am_ux 827 (by decide +kernel) rfl)⟩
theorem fX9_66 : am_fl RX9 66 9 22 := ⟨_, rfl, by decide, Or.inl (am_ux 828 (by decide +kernel) rfl)⟩
theorem fX9_69 : am_fl RX9 69 9 23 := ⟨_, rfl, by decide, Or.inl (am_ux 829 (by decide +kernel) rfl)⟩
theorem fX9_72 : am_fl RX9 72 9 25 := ⟨_, rfl, by decide, Or.inl (am_ux 831 (by decide +kernel) rfl)⟩
theorem fX9_75 : am_fl RX9 75 9 26 := ⟨_, rfl, by decide, Or.inl (am_ux 832 (by decide +kernel) rfl)⟩
theorem fX9_78 : am_fl RX9 78 9 27 := ⟨_, rfl, by decide, Or.inl (am_ux 833 (by decide +kernel) rfl)⟩
theorem fX9_81 : am_fl RX9 81 9 28 := ⟨_, rfl, by decide, Or.inl (am_ux 834 (by decide +kernel) rfl)⟩
theorem fX9_84 : am_fl RX9 84 9 29 := ⟨_, rfl, by decide, Or.inl (am_ux 835 (by decide +kernel) rfl)⟩
theorem fX9_87 : am_fl RX9 87 9 30 := ⟨_, rfl, by decide, Or.inl (am_ux 836 (by decide +kernel) rfl)⟩
theorem fX9_90 : am_fl RX9 90 9 31 := ⟨_, rfl, by decide, Or.inl (am_ux 837 (by decide +kernel) rfl)⟩
theorem fX9_93 : am_fl RX9 93 9 32 := ⟨_, rfl, by decide, Or.inl (am_ux 838 (by decide +kernel) rfl)⟩
theorem fX9_96 : am_fl RX9 96 9 33 := ⟨_, rfl, by decide, Or.inl (am_ux 839 (by decide +kernel) rfl)⟩
theorem fX9_99 : am_fl RX9 99 9 34 := ⟨_, rfl, by decide, Or.inl (am_ux 840 (by decide +kernel) rfl)⟩
theorem fX9_102 : am_fl RX9 102 9 35 := ⟨_, rfl, by decide, Or.inl (am_ux 841 (by decide +kernel) rfl)⟩
theorem fX9_105 : am_fl RX9 105 9 36 := ⟨_, rfl, by decide, Or.inl (am_ux 842 (by decide +kernel) rfl)⟩
theorem fX9_108 : am_fl RX9 108 9 37 := ⟨_, rfl, by decide, Or.inl (am_ux 843 (by decide +kernel) rfl)⟩
theorem fX9_111 : am_fl RX9 111 9 38 := ⟨_, rfl, by decide, Or.inl (am_ux 844 (by decide +kernel) rfl)⟩
theorem fX9_114 : am_fl RX9 114 9 40 := ⟨_, rfl, by decide, Or.inl (am_ux 846 (by decide +kernel) rfl)⟩
theorem fX9_117 : am_fl RX9 117 9 41 := ⟨_, rfl, by decide, Or.inl (am_ux 847 (by decide +kernel) rfl)⟩
theorem fX9_120 : am_fl RX9 120 9 42 := ⟨_, rfl, by decide, Or.inl (am_ux 848 (by decide +kernel) rfl)⟩
theorem fX9_123 : am_fl RX9 123 9 0 := ⟨_, rfl, by decide, Or.inl (am_ux 806 (by decide +kernel) rfl)⟩
theorem fX9_126 : am_fl RX9 126 9 3 := ⟨_, rfl, by decide, Or.inl (am_ux 809 (by decide +kernel) rfl)⟩
theorem fX9_133 : am_fl RX9 133 9 2 := ⟨_, rfl, by decide, Or.inl (am_ux 808 (by decide +kernel) rfl)⟩
theorem fX9_144 : am_fl RX9 144 9 11 := ⟨_, rfl, by decide, Or.inl (am_ux 817 (by decide +kernel) rfl)⟩
theorem fX9_161 : am_fl RX9 161 9 24 := ⟨_, rfl, by decide, Or.inl (am_ux 830 (by decide +kernel) rfl)⟩
theorem fX9_186 : am_fl RX9 186 9 39 := ⟨_, rfl, by decide, Or.inl (am_ux 845 (by decide +kernel) rfl)⟩
theorem kL_7 : am_mv_ RL 7 8 yX8_tower 2 wX8_tower := ⟨vX8_tower, nX8_tower, (am_ux 208 (by decide +kernel) rfl), ⟨_, rfl, (am_ux 209 (by decide +kernel) rfl)⟩, Or.inl (am_ux 207 (by decide +kernel) rfl)⟩
theorem kL_17 : am_mv_ RL 17 8 yX8_hill 3 wX8_hill := ⟨vX8_hill, nX8_hill, (am_ux 396 (by decide +kernel) rfl), ⟨_, rfl, (am_ux 397 (by decide +kernel) rfl)⟩, Or.inl (am_ux 395 (by decide +kernel) rfl)⟩
theorem kL_23 : am_mv_ RL 23 8 yX8_air 2 wX8_air := ⟨vX8_air, nX8_air, (am_ux 429 (by decide +kernel) rfl), ⟨_, rfl, (am_ux 430 (by decide +kernel) rfl)⟩, Or.inl (am_ux 428 (by decide +kernel) rfl)⟩
theorem kL_26 : am_mv_ RL 26 8 yX8_tire 2 wX8_tire := ⟨vX8_tire, nX8_tire, (am_ux 437 (by decide +kernel) rfl), ⟨_, rfl, (am_ux 438 (by decide +kernel) rfl)⟩, Or.inl (am_ux 436 (by decide +kernel) rfl)⟩
theorem kL_29 : am_mv_ RL 29 8 yX8_seed 1 wX8_seed := ⟨vX8_seed, nX8_seed, (am_ux 450 (by decide +kernel) rfl), ⟨_, rfl, (am_ux 451 (by decide +kernel) rfl)⟩, Or.inl (am_ux 449 (by decide +kernel) rfl)⟩
theorem kL_33 : am_mv_ RL 33 8 yX8_write 4 wX8_write := ⟨vX8_write, nX8_write, (am_ux 458 (by decide +kernel) rfl), ⟨_, rfl, (am_ux 459 (by decide +kernel) rfl)⟩, Or.inl (am_ux 457 (by decide +kernel) rfl)⟩
theorem kL_37 : am_mv_ RL 37 8 yX8_type 1 wX8_type := ⟨vX8_type, nX8_type, (am_ux 495 (by decide +kernel) rfl), ⟨_, rfl, (am_ux 496 (by decide +kernel) rfl)⟩, Or.inl (am_ux 494 (by decide +kernel) rfl)⟩
theorem kL_40 : am_mv_ RL 40 8 yX8_send 3 wX8_send := ⟨vX8_send, nX8_send, (am_ux 504 (by decide +kernel) rfl), ⟨_, rfl, (am_ux 505 (by decide +kernel) rfl)⟩, Or.inl (am_ux 503 (by decide +kernel) rfl)⟩
theorem kL_44 : am_mv_ RL 44 8 yX8_mark 3 wX8_mark := ⟨vX8_mark, nX8_mark, (am_ux 529 (by decide +kernel) rfl), ⟨_, rfl, (am_ux 530 (by decide +kernel) rfl)⟩, Or.inl (am_ux 528 (by decide +kernel) rfl)⟩
theorem kL_48 : am_mv_ RL 48 8 yX8_spy 1 wX8_spy := ⟨vX8_spy, nX8_spy, (am_ux 553 (by decide +kernel) rfl), ⟨_, rfl, (am_ux 554 (by decide +kernel) rfl)⟩, Or.inl (am_ux 552 (by decide +kernel) rfl)⟩
theorem kL_51 : am_mv_ RL 51 8 yX8_pass 1 wX8_pass := ⟨vX8_pass, nX8_pass, (am_ux 579 (by decide +kernel) rfl), ⟨_, rfl, (am_ux 580 (by decide +kernel) rfl)⟩, Or.inl (am_ux 578 (by decide +kernel) rfl)⟩
theorem kL_54 : am_mv_ RL 54 8 yX8_sees 1 wX8_sees := ⟨vX8_sees, nX8_sees, (am_ux 678 (by decide +kernel) rfl), ⟨_, rfl, (am_ux 679 (by decide +kernel) rfl)⟩, Or.inl (am_ux 677 (by decide +kernel) rfl)⟩
theorem kL_58 : am_mv_ RL 58 8 yX8_shows 2 wX8_shows := ⟨vX8_shows, nX8_shows, (am_ux 685 (by decide +kernel) rfl), ⟨_, rfl, (am_ux 686 (by decide +kernel) rfl)⟩, Or.inl (am_ux 684 (by decide +kernel) rfl)⟩
theorem kL_62 : am_mv_ RL 62 8 yX8_keeps 3 wX8_keeps := ⟨vX8_keeps, nX8_keeps, (am_ux 692 (by decide +kernel) rfl), ⟨_, rfl, (am_ux 693 (by decide +kernel) rfl)⟩, Or.inl (am_ux 691 (by decide +kernel) rfl)⟩
theorem kL_66 : am_mv_ RL 66 8 yX8_logs 2 wX8_logs := ⟨vX8_logs, nX8_logs, (am_ux 700 (by decide +kernel) rfl), ⟨_, rfl, (am_ux 701 (by decide +kernel) rfl)⟩, Or.inl (am_ux 699 (by decide +kernel) rfl)⟩
theorem kL_69 : am_mv_ RL 69 8 yX8_log 4 wX8_log := ⟨vX8_log, nX8_log, (am_ux 707 (by decide +kernel) rfl), ⟨_, rfl, (am_ux 708 (by decide +kernel) rfl)⟩, Or.inl (am_ux 706 (by decide +kernel) rfl)⟩
theorem kL_73 : am_mv_ RL 73 8 yX8_differs 3 wX8_differs := ⟨vX8_differs, nX8_differs, (am_ux 720 (by decide +kernel) rfl), ⟨_, rfl, (am_ux 721 (by decide +kernel) rfl)⟩, Or.inl (am_ux 719 (by decide +kernel) rfl)⟩
theorem kL_77 : am_mv_ RL 77 8 yX8_told 3 wX8_told := ⟨vX8_told, nX8_told, (am_ux 734 (by decide +kernel) rfl), ⟨_, rfl, (am_ux 735 (by decide +kernel) rfl)⟩, Or.inl (am_ux 733 (by decide +kernel) rfl)⟩
theorem kL_81 : am_mv_ RL 81 8 yX8_phrase 4 wX8_phrase := ⟨vX8_phrase, nX8_phrase, (am_ux 754 (by decide +kernel) rfl), ⟨_, rfl, (am_ux 755 (by decide +kernel) rfl)⟩, Or.inl (am_ux 753 (by decide +kernel) rfl)⟩
theorem kL_85 : am_mv_ RL 85 8 yX8_seen 1 wX8_seen := ⟨vX8_seen, nX8_seen, (am_ux 763 (by decide +kernel) rfl), ⟨_, rfl, (am_ux 764 (by decide +kernel) rfl)⟩, Or.inl (am_ux 762 (by decide +kernel) rfl)⟩
theorem kL_88 : am_mv_ RL 88 8 yX8_tries 2 wX8_tries := ⟨vX8_tries, nX8_tries, (am_ux 775 (by decide +kernel) rfl), ⟨_, rfl, (am_ux 776 (by decide +kernel) rfl)⟩, Or.inl (am_ux 774 (by decide +kernel) rfl)⟩
theorem kL_91 : am_mv_ RL 91 8 yX8_comes 1 wX8_comes := ⟨vX8_comes, nX8_comes, (am_ux 782 (by decide +kernel) rfl), ⟨_, rfl, (am_ux 783 (by decide +kernel) rfl)⟩, Or.inl (am_ux 781 (by decide +kernel) rfl)⟩
theorem kL_94 : am_mv_ RL 94 8 yX8_comesAnew 1 wX8_comesAnew := ⟨vX8_comesAnew, nX8_comesAnew, (am_ux 790 (by decide +kernel) rfl), ⟨_, rfl, (am_ux 791 (by decide +kernel) rfl)⟩, Or.inl (am_ux 789 (by decide +kernel) rfl)⟩
theorem kL_97 : am_mi_ RL 97 yX8_init 0 wX8_init := ⟨vX8_init, nX8_init, (am_ux 79 (by decide +kernel) rfl), rfl, Or.inl (am_ux 78 (by decide +kernel) rfl)⟩
theorem kL_100 : am_mi_ RL 100 yX9_init 0 wX9_init := ⟨vX9_init, nX9_init, (am_ux 803 (by decide +kernel) rfl), rfl, Or.inl (am_ux 802 (by decide +kernel) rfl)⟩
theorem kL_101 : am_ms_ RL 101 yL_tower 4 wL_tower := ⟨vL_tower, nL_tower, (am_ux 203 (by decide +kernel) rfl), (am_ux 202 (by decide +kernel) rfl)⟩
theorem kL_106 : am_mv_ RL 106 9 yX9_tower 2 wX9_tower := ⟨vX9_tower, nX9_tower, (am_ux 941 (by decide +kernel) rfl), ⟨_, rfl, (am_ux 942 (by decide +kernel) rfl)⟩, Or.inl (am_ux 940 (by decide +kernel) rfl)⟩
theorem kL_107 : am_mv_ RL 107 9 yX9_thrown 0 wX9_thrown := ⟨vX9_thrown, nX9_thrown, (am_ux 937 (by decide +kernel) rfl), ⟨_, rfl, (am_ux 938 (by decide +kernel) rfl)⟩, Or.inl (am_ux 936 (by decide +kernel) rfl)⟩
theorem kL_111 : am_ms_ RL 111 yL_hill 5 wL_hill := ⟨vL_hill, nL_hill, (am_ux 392 (by decide +kernel) rfl), (am_ux 391 (by decide +kernel) rfl)⟩
theorem kL_114 : am_mv_ RL 114 9 yX9_hill 3 wX9_hill := ⟨vX9_hill, nX9_hill, (am_ux 948 (by decide +kernel) rfl), ⟨_, rfl, (am_ux 949 (by decide +kernel) rfl)⟩, Or.inl (am_ux 947 (by decide +kernel) rfl)⟩
theorem kL_115 : am_ms_ RL 115 yL_air 4 wL_air := ⟨vL_air, nL_air, (am_ux 426 (by decide +kernel) rfl), (am_ux 425 (by decide +kernel) rfl)⟩
theorem kL_117 : am_mv_ RL 117 9 yX9_air 2 wX9_air := ⟨vX9_air, nX9_air, (am_ux 956 (by decide +kernel) rfl), ⟨_, rfl, (am_ux 957 (by decide +kernel) rfl)⟩, Or.inl (am_ux 955 (by decide +kernel) rfl)⟩
theorem kL_118 : am_ms_ RL 118 yL_tire 4 wL_tire := ⟨vL_tire, nL_tire, (am_ux 434 (by decide +kernel) rfl), (am_ux 433 (by decide +kernel) rfl)⟩
theorem kL_120 : am_mv_ RL 120 9 yX9_tire 2 wX9_tire := ⟨vX9_tire, nX9_tire, (am_ux 960 (by decide +kernel) rfl), ⟨_, rfl, (am_ux 961 (by decide +kernel) rfl)⟩, Or.inl (am_ux 959 (by decide +kernel) rfl)⟩
theorem kL_121 : am_ms_ RL 121 yL_seed 3 wL_seed := ⟨vL_seed, nL_seed, (am_ux 447 (by decide +kernel) rfl), (am_ux 446 (by decide +kernel) rfl)⟩
theorem kL_124 : am_mv_ RL 124 9 yX9_seed 1 wX9_seed := ⟨vX9_seed, nX9_seed, (am_ux 968 (by decide +kernel) rfl), ⟨_, rfl, (am_ux 969 (by decide +kernel) rfl)⟩, Or.inl (am_ux 967 (by decide +kernel) rfl)⟩
theorem kL_125 : am_ms_ RL 125 yL_write 6 wL_write := ⟨vL_write, nL_write, (am_ux 455 (by decide +kernel) rfl), (am_ux 454 (by decide +kernel) rfl)⟩
theorem kL_128 : am_mv_ RL 128 9 yX9_write 4 wX9_write := ⟨vX9_write, nX9_write, (am_ux 972 (by decide +kernel) rfl), ⟨_, rfl, (am_ux 973 (by decide +kernel) rfl)⟩, Or.inl (am_ux 971 (by decide +kernel) rfl)⟩
theorem kL_129 : am_ms_ RL 129 yL_type 3 wL_type := ⟨vL_type, nL_type, (am_ux 492 (by decide +kernel) rfl), (am_ux 491 (by decide +kernel) rfl)⟩
theorem kL_131 : am_mv_ RL 131 9 yX9_type 1 wX9_type := ⟨vX9_type, nX9_type, (am_ux 983 (by decide +kernel) rfl), ⟨_, rfl, (am_ux 984 (by decide +kernel) rfl)⟩, Or.inl (am_ux 982 (by decide +kernel) rfl)⟩
theorem kL_132 : am_mv_ RL 132 8 yX8_clear 0 wX8_clear := ⟨vX8_clear, nX8_clear, (am_ux 179 (by decide +kernel) rfl), ⟨_, rfl, (am_ux 180 (by decide +kernel) rfl)⟩, Or.inl (am_ux 178 (by decide +kernel) rfl)⟩
theorem kL_135 : am_mv_ RL 135 9 yX9_clear 0 wX9_clear := ⟨vX9_clear, nX9_clear, (am_ux 987 (by decide +kernel) rfl), ⟨_, rfl, (am_ux 988 (by decide +kernel) rfl)⟩, Or.inl (am_ux 986 (by decide +kernel) rfl)⟩
theorem kL_136 : am_ms_ RL 136 yL_send 5 wL_send := ⟨vL_send, nL_send, (am_ux 501 (by decide +kernel) rfl), (am_ux 500 (by decide +kernel) rfl)⟩
theorem kL_139 : am_mv_ RL 139 9 yX9_send 3 wX9_send := ⟨vX9_send, nX9_send, (am_ux 991 (by decide +kernel) rfl), ⟨_, rfl, (am_ux 992 (by decide +kernel) rfl)⟩, Or.inl (am_ux 990 (by decide +kernel) rfl)⟩
theorem kL_140 : am_ms_ RL 140 yL_mark 5 wL_mark := ⟨vL_mark, nL_mark, (am_ux 526 (by decide +kernel) rfl), (am_ux 525 (by decide +kernel) rfl)⟩
theorem kL_143 : am_mv_ RL 143 9 yX9_mark 3 wX9_mark := ⟨vX9_mark, nX9_mark, (am_ux 1010 (by decide +kernel) rfl), ⟨_, rfl, (am_ux 1011 (by decide +kernel) rfl)⟩, Or.inl (am_ux 1009 (by decide +kernel) rfl)⟩
theorem kL_144 : am_ms_ RL 144 yL_spy 3 wL_spy := ⟨vL_spy, nL_spy, (am_ux 550 (by decide +kernel) rfl), (am_ux 549 (by decide +kernel) rfl)⟩
theorem kL_146 : am_mv_ RL 146 9 yX9_spy 1 wX9_spy := ⟨vX9_spy, nX9_spy, (am_ux 1022 (by decide +kernel) rfl), ⟨_, rfl, (am_ux 1023 (by decide +kernel) rfl)⟩, Or.inl (am_ux 1021 (by decide +kernel) rfl)⟩
theorem kL_147 : am_ms_ RL 147 yL_pass 3 wL_pass := ⟨vL_pass, nL_pass, (am_ux 576 (by decide +kernel) rfl), (am_ux 575 (by decide +kernel) rfl)⟩
theorem kL_149 : am_mv_ RL 149 9 yX9_pass 1 wX9_pass := ⟨vX9_pass, nX9_pass, (am_ux 1026 (by decide +kernel) rfl), ⟨_, rfl, (am_ux 1027 (by decide +kernel) rfl)⟩, Or.inl (am_ux 1025 (by decide +kernel) rfl)⟩
theorem kL_150 : am_mv_ RL 150 8 yX8_minute 0 wX8_minute := ⟨vX8_minute, nX8_minute, (am_ux 183 (by decide +kernel) rfl), ⟨_, rfl, (am_ux 184 (by decide +kernel) rfl)⟩, Or.inl (am_ux 182 (by decide +kernel) rfl)⟩
theorem kL_153 : am_mv_ RL 153 9 yX9_minute 0 wX9_minute := ⟨vX9_minute, nX9_minute, (am_ux 1069 (by decide +kernel) rfl), ⟨_, rfl, (am_ux 1070 (by decide +kernel) rfl)⟩, Or.inl (am_ux 1068 (by decide +kernel) rfl)⟩
theorem kL_154 : am_mv_ RL 154 8 yX8_towers 0 wX8_towers := ⟨vX8_towers, nX8_towers, (am_ux 187 (by decide +kernel) rfl), ⟨_, rfl, (am_ux 188 (by decide +kernel) rfl)⟩, Or.inl (am_ux 186 (by decide +kernel) rfl)⟩
theorem kL_157 : am_mv_ RL 157 9 yX9_towers 0 wX9_towers := ⟨vX9_towers, nX9_towers, (am_ux 1073 (by decide +kernel) rfl), ⟨_, rfl, (am_ux 1074 (by decide +kernel) rfl)⟩, Or.inl (am_ux 1072 (by decide +kernel) rfl)⟩
theorem kL_158 : am_ms_ RL 158 yL_sees 3 wL_sees := ⟨vL_sees, nL_sees, (am_ux 675 (by decide +kernel) rfl), (am_ux 674 (by decide +kernel) rfl)⟩
theorem kL_160 : am_mv_ RL 160 9 yX9_sees 1 wX9_sees := ⟨vX9_sees, nX9_sees, (am_ux 1077 (by decide +kernel) rfl), ⟨_, rfl, (am_ux 1078 (by decide +kernel) rfl)⟩, Or.inl (am_ux 1076 (by decide +kernel) rfl)⟩
theorem kL_161 : am_ms_ RL 161 yL_shows 4 wL_shows := ⟨vL_shows, nL_shows, (am_ux 682 (by decide +kernel) rfl), (am_ux 681 (by decide +kernel) rfl)⟩
theorem kL_164 : am_mv_ RL 164 9 yX9_shows 2 wX9_shows := ⟨vX9_shows, nX9_shows, (am_ux 1081 (by decide +kernel) rfl), ⟨_, rfl, (am_ux 1082 (by decide +kernel) rfl)⟩, Or.inl (am_ux 1080 (by decide +kernel) rfl)⟩
theorem kL_165 : am_ms_ RL 165 yL_keeps 5 wL_keeps := ⟨vL_keeps, nL_keeps, (am_ux 689 (by decide +kernel) rfl), (am_ux 688 (by decide +kernel) rfl)⟩
theorem kL_168 : am_mv_ RL 168 9 yX9_keeps 3 wX9_keeps := ⟨vX9_keeps, nX9_keeps, (am_ux 1085 (by decide +kernel) rfl), ⟨_, rfl, (am_ux 1086 (by decide +kernel) rfl)⟩, Or.inl (am_ux 1084 (by decide +kernel) rfl)⟩
theorem kL_169 : am_ms_ RL 169 yL_logs 4 wL_logs := ⟨vL_logs, nL_logs, (am_ux 697 (by decide +kernel) rfl), (am_ux 696 (by decide +kernel) rfl)⟩
theorem kL_171 : am_mv_ RL 171 9 yX9_logs 2 wX9_logs := ⟨vX9_logs, nX9_logs, (am_ux 1089 (by decide +kernel) rfl), ⟨_, rfl, (am_ux 1090 (by decide +kernel) rfl)⟩, Or.inl (am_ux 1088 (by decide +kernel) rfl)⟩
theorem kL_172 : am_ms_ RL 172 yL_log 6 wL_log := ⟨vL_log, nL_log, (am_ux 704 (by decide +kernel) rfl), (am_ux 703 (by decide +kernel) rfl)⟩
theorem kL_175 : am_mv_ RL 175 9 yX9_log 4 wX9_log := ⟨vX9_log, nX9_log, (am_ux 1093 (by decide +kernel) rfl), ⟨_, rfl, (am_ux 1094 (by decide +kernel) rfl)⟩, Or.inl (am_ux 1092 (by decide +kernel) rfl)⟩
theorem kL_176 : am_ms_ RL 176 yL_differs 5 wL_differs := ⟨vL_differs, nL_differs, (am_ux 717 (by decide +kernel) rfl), (am_ux 716 (by decide +kernel) rfl)⟩
theorem kL_179 : am_mv_ RL 179 9 yX9_differs 3 wX9_differs := ⟨vX9_differs, nX9_differs, (am_ux 1097 (by decide +kernel) rfl), ⟨_, rfl, (am_ux 1098 (by decide +kernel) rfl)⟩, Or.inl (am_ux 1096 (by decide +kernel) rfl)⟩
theorem kL_180 : am_mv_ RL 180 8 yX8_came 1 wX8_came := ⟨vX8_came, nX8_came, (am_ux 191 (by decide +kernel) rfl), ⟨_, rfl, (am_ux 192 (by decide +kernel) rfl)⟩, Or.inl (am_ux 190 (by decide +kernel) rfl)⟩
theorem kL_184 : am_mv_ RL 184 9 yX9_came 1 wX9_came := ⟨vX9_came, nX9_came, (am_ux 1105 (by decide +kernel) rfl), ⟨_, rfl, (am_ux 1106 (by decide +kernel) rfl)⟩, Or.inl (am_ux 1104 (by decide +kernel) rfl)⟩
theorem kL_185 : am_ms_ RL 185 yL_told 5 wL_told := ⟨vL_told, nL_told, (am_ux 731 (by decide +kernel) rfl), (am_ux 730 (by decide +kernel) rfl)⟩
theorem kL_188 : am_mv_ RL 188 9 yX9_told 3 wX9_told := ⟨vX9_told, nX9_told, (am_ux 1109 (by decide +kernel) rfl), ⟨_, rfl, (am_ux 1110 (by decide +kernel) rfl)⟩, Or.inl (am_ux 1108 (by decide +kernel) rfl)⟩
theorem kL_189 : am_ms_ RL 189 yL_phrase 6 wL_phrase := ⟨vL_phrase, nL_phrase, (am_ux 751 (by decide +kernel) rfl), (am_ux 750 (by decide +kernel) rfl)⟩
theorem kL_192 : am_mv_ RL 192 9 yX9_phrase 4 wX9_phrase := ⟨vX9_phrase, nX9_phrase, (am_ux 1113 (by decide +kernel) rfl), ⟨_, rfl, (am_ux 1114 (by decide +kernel) rfl)⟩, Or.inl (am_ux 1112 (by decide +kernel) rfl)⟩
theorem kL_193 : am_mv_ RL 193 8 yX8_open 1 wX8_open := ⟨vX8_open, nX8_open, (am_ux 199 (by decide +kernel) rfl), ⟨_, rfl, (am_ux 200 (by decide +kernel) rfl)⟩, Or.inl (am_ux 198 (by decide +kernel) rfl)⟩
theorem kL_196 : am_mv_ RL 196 9 yX9_open 1 wX9_open := ⟨vX9_open, nX9_open, (am_ux 1117 (by decide +kernel) rfl), ⟨_, rfl, (am_ux 1118 (by decide +kernel) rfl)⟩, Or.inl (am_ux 1116 (by decide +kernel) rfl)⟩
theorem kL_197 : am_ms_ RL 197 yL_seen 3 wL_seen := ⟨vL_seen, nL_seen, (am_ux 760 (by decide +kernel) rfl), (am_ux 759 (by decide +kernel) rfl)⟩
theorem kL_199 : am_mv_ RL 199 9 yX9_seen 1 wX9_seen := ⟨vX9_seen, nX9_seen, (am_ux 1121 (by decide +kernel) rfl), ⟨_, rfl, (am_ux 1122 (by decide +kernel) rfl)⟩, Or.inl (am_ux 1120 (by decide +kernel) rfl)⟩
theorem kL_200 : am_ms_ RL 200 yL_tries 4 wL_tries := ⟨vL_tries, nL_tries, (am_ux 772 (by decide +kernel) rfl), (am_ux 771 (by decide +kernel) rfl)⟩
theorem kL_202 : am_mv_ RL 202 9 yX9_tries 2 wX9_tries := ⟨vX9_tries, nX9_tries, (am_ux 1125 (by decide +kernel) rfl), ⟨_, rfl, (am_ux 1126 (by decide +kernel) rfl)⟩, Or.inl (am_ux 1124 (by decide +kernel) rfl)⟩
theorem kL_203 : am_ms_ RL 203 yL_comes 3 wL_comes := ⟨vL_comes, nL_comes, (am_ux 779 (by decide +kernel) rfl), (am_ux 778 (by decide +kernel) rfl)⟩
theorem kL_205 : am_mv_ RL 205 9 yX9_comes 1 wX9_comes := ⟨vX9_comes, nX9_comes, (am_ux 1129 (by decide +kernel) rfl), ⟨_, rfl, (am_ux 1130 (by decide +kernel) rfl)⟩, Or.inl (am_ux 1128 (by decide +kernel) rfl)⟩
theorem kL_206 : am_ms_ RL 206 yL_comesAnew 3 wL_comesAnew := ⟨vL_comesAnew, nL_comesAnew, (am_ux 787 (by decide +kernel) rfl), (am_ux 786 (by decide +kernel) rfl)⟩
theorem kL_208 : am_mv_ RL 208 9 yX9_comesAnew 1 wX9_comesAnew := ⟨vX9_comesAnew, nX9_comesAnew, (am_ux 1133 (by decide +kernel) rfl), ⟨_, rfl, (am_ux 1134 (by decide +kernel) rfl)⟩, Or.inl (am_ux 1132 (by decide +kernel) rfl)⟩
theorem kX0_21 : am_mi_ RX0 21 yX3_init 0 wX3_init := ⟨vX3_init, nX3_init, (am_ux 312 (by decide +kernel) rfl), rfl, Or.inr ⟨"ArmtowerLine", List.mem_of_getElem? (i := 311) (by decide +kernel)⟩⟩
theorem kX1_22 : am_mv_ RX1 22 1 yX1_indexOf 1 wX1_indexOf := ⟨vX1_indexOf, nX1_indexOf, (am_ux 476 (by decide +kernel) rfl), ⟨_, rfl, (am_ux 7 (by decide +kernel) rfl)⟩, Or.inl (am_ux 474 (by decide +kernel) rfl)⟩
theorem kX1_26 : am_mv_ RX1 26 1 yX1_remove 1 wX1_remove := ⟨vX1_remove, nX1_remove, (am_ux 484 (by decide +kernel) rfl), ⟨_, rfl, (am_ux 9 (by decide +kernel) rfl)⟩, Or.inl (am_ux 482 (by decide +kernel) rfl)⟩
theorem kX1_30 : am_mv_ RX1 30 1 yX1_add 2 wX1_add := ⟨vX1_add, nX1_add, (am_ux 488 (by decide +kernel) rfl), ⟨_, rfl, (am_ux 10 (by decide +kernel) rfl)⟩, Or.inl (am_ux 486 (by decide +kernel) rfl)⟩
theorem kX2_33 : am_mv_ RX2 33 2 yX2_spots 0 wX2_spots := ⟨vX2_spots, nX2_spots, (am_ux 748 (by decide +kernel) rfl), ⟨_, rfl, (am_ux 37 (by decide +kernel) rfl)⟩, Or.inl (am_ux 746 (by decide +kernel) rfl)⟩
theorem kX6_21 : am_mv_ RX6 21 6 yX6_begin 2 wX6_begin := ⟨vX6_begin, nX6_begin, (am_ux 616 (by decide +kernel) rfl), ⟨_, rfl, (am_ux 25 (by decide +kernel) rfl)⟩, Or.inl (am_ux 614 (by decide +kernel) rfl)⟩
theorem kX6_25 : am_mv_ RX6 25 6 yX6_end 1 wX6_end := ⟨vX6_end, nX6_end, (am_ux 652 (by decide +kernel) rfl), ⟨_, rfl, (am_ux 27 (by decide +kernel) rfl)⟩, Or.inl (am_ux 650 (by decide +kernel) rfl)⟩
theorem kX6_29 : am_mv_ RX6 29 6 yX6_dropAll 0 wX6_dropAll := ⟨vX6_dropAll, nX6_dropAll, (am_ux 620 (by decide +kernel) rfl), ⟨_, rfl, (am_ux 26 (by decide +kernel) rfl)⟩, Or.inl (am_ux 618 (by decide +kernel) rfl)⟩
theorem kX6_36 : am_mv_ RX6 36 2 yX2_add 1 wX2_add := ⟨vX2_add, nX2_add, (am_ux 656 (by decide +kernel) rfl), ⟨_, rfl, (am_ux 28 (by decide +kernel) rfl)⟩, Or.inr ⟨"ArmtowerLine", List.mem_of_getElem? (i := 654) (by decide +kernel)⟩⟩
theorem kX6_42 : am_mi_ RX6 42 yX2_init 3 wX2_init := ⟨vX2_init, nX2_init, (am_ux 624 (by decide +kernel) rfl), rfl, Or.inr ⟨"ArmtowerLine", List.mem_of_getElem? (i := 623) (by decide +kernel)⟩⟩
theorem kX7_15 : am_mi_ RX7 15 yX0_init 0 wX0_init := ⟨vX0_init, nX0_init, (am_ux 306 (by decide +kernel) rfl), rfl, Or.inr ⟨"ArmtowerLine", List.mem_of_getElem? (i := 305) (by decide +kernel)⟩⟩
theorem kX8_31 : am_mi_ RX8 31 yX1_init 0 wX1_init := ⟨vX1_init, nX1_init, (am_ux 92 (by decide +kernel) rfl), rfl, Or.inr ⟨"ArmtowerLine", List.mem_of_getElem? (i := 91) (by decide +kernel)⟩⟩
theorem kX8_41 : am_mi_ RX8 41 yX6_init 0 wX6_init := ⟨vX6_init, nX6_init, (am_ux 109 (by decide +kernel) rfl), rfl, Or.inr ⟨"ArmtowerLine", List.mem_of_getElem? (i := 108) (by decide +kernel)⟩⟩
theorem kX8_55 : am_ms_ RX8 55 yX8_isOutside 3 wX8_isOutside := ⟨vX8_isOutside, nX8_isOutside, (am_ux 212 (by decide +kernel) rfl), (am_ux 211 (by decide +kernel) rfl)⟩
theorem kX8_78 : am_mi_ RX8 78 yX7_init 1 wX7_init := ⟨vX7_init, nX7_init, (am_ux 300 (by decide +kernel) rfl), rfl, Or.inr ⟨"ArmtowerLine", List.mem_of_getElem? (i := 299) (by decide +kernel)⟩⟩
theorem kX8_81 : am_mi_ RX8 81 yX5_init 1 wX5_init := ⟨vX5_init, nX5_init, (am_ux 369 (by decide +kernel) rfl), rfl, Or.inr ⟨"ArmtowerLine", List.mem_of_getElem? (i := 368) (by decide +kernel)⟩⟩
theorem kX8_82 : am_mv_ RX8 82 8 yX8_stretchAt 1 wX8_stretchAt := ⟨vX8_stretchAt, nX8_stretchAt, (am_ux 401 (by decide +kernel) rfl), ⟨_, rfl, (am_ux 2 (by decide +kernel) rfl)⟩, Or.inl (am_ux 399 (by decide +kernel) rfl)⟩
theorem kX8_91 : am_mv_ RX8 91 5 yX5_layHill 2 wX5_layHill := ⟨vX5_layHill, nX5_layHill, (am_ux 422 (by decide +kernel) rfl), ⟨_, rfl, (am_ux 3 (by decide +kernel) rfl)⟩, Or.inr ⟨"ArmtowerLine", List.mem_of_getElem? (i := 420) (by decide +kernel)⟩⟩
theorem kX8_105 : am_mv_ RX8 105 8 yX8_towerAt 1 wX8_towerAt := ⟨vX8_towerAt, nX8_towerAt, (am_ux 442 (by decide +kernel) rfl), ⟨_, rfl, (am_ux 4 (by decide +kernel) rfl)⟩, Or.inl (am_ux 440 (by decide +kernel) rfl)⟩
theorem kX8_119 : am_mv_ RX8 119 8 yX8_bookAt 1 wX8_bookAt := ⟨vX8_bookAt, nX8_bookAt, (am_ux 463 (by decide +kernel) rfl), ⟨_, rfl, (am_ux 5 (by decide +kernel) rfl)⟩, Or.inl (am_ux 461 (by decide +kernel) rfl)⟩
theorem kX8_125 : am_ms_ RX8 125 yX8_spotOf 2 wX8_spotOf := ⟨vX8_spotOf, nX8_spotOf, (am_ux 468 (by decide +kernel) rfl), (am_ux 467 (by decide +kernel) rfl)⟩
theorem kX8_129 : am_mv_ RX8 129 1 yX1_phraseAt 1 wX1_phraseAt := ⟨vX1_phraseAt, nX1_phraseAt, (am_ux 472 (by decide +kernel) rfl), ⟨_, rfl, (am_ux 6 (by decide +kernel) rfl)⟩, Or.inr ⟨"ArmtowerLine", List.mem_of_getElem? (i := 470) (by decide +kernel)⟩⟩
theorem kX8_133 : am_mv_ RX8 133 1 yX1_put 2 wX1_put := ⟨vX1_put, nX1_put, (am_ux 480 (by decide +kernel) rfl), ⟨_, rfl, (am_ux 8 (by decide +kernel) rfl)⟩, Or.inr ⟨"ArmtowerLine", List.mem_of_getElem? (i := 478) (by decide +kernel)⟩⟩
theorem kX8_147 : am_mv_ RX8 147 8 yX8_layOut 2 wX8_layOut := ⟨vX8_layOut, nX8_layOut, (am_ux 510 (by decide +kernel) rfl), ⟨_, rfl, (am_ux 11 (by decide +kernel) rfl)⟩, Or.inl (am_ux 508 (by decide +kernel) rfl)⟩
theorem kX8_160 : am_mv_ RX8 160 0 yX0_keepAll 3 wX0_keepAll := ⟨vX0_keepAll, nX0_keepAll, (am_ux 519 (by decide +kernel) rfl), ⟨_, rfl, (am_ux 13 (by decide +kernel) rfl)⟩, Or.inr ⟨"ArmtowerLine", List.mem_of_getElem? (i := 517) (by decide +kernel)⟩⟩
theorem kX8_171 : am_mv_ RX8 171 7 yX7_armFor 1 wX7_armFor := ⟨vX7_armFor, nX7_armFor, (am_ux 534 (by decide +kernel) rfl), ⟨_, rfl, (am_ux 14 (by decide +kernel) rfl)⟩, Or.inr ⟨"ArmtowerLine", List.mem_of_getElem? (i := 532) (by decide +kernel)⟩⟩
theorem kX8_175 : am_mv_ RX8 175 8 yX8_isEnd 2 wX8_isEnd := ⟨vX8_isEnd, nX8_isEnd, (am_ux 538 (by decide +kernel) rfl), ⟨_, rfl, (am_ux 15 (by decide +kernel) rfl)⟩, Or.inl (am_ux 536 (by decide +kernel) rfl)⟩
theorem kX8_179 : am_mv_ RX8 179 0 yX0_keepOne 1 wX0_keepOne := ⟨vX0_keepOne, nX0_keepOne, (am_ux 542 (by decide +kernel) rfl), ⟨_, rfl, (am_ux 16 (by decide +kernel) rfl)⟩, Or.inr ⟨"ArmtowerLine", List.mem_of_getElem? (i := 540) (by decide +kernel)⟩⟩
theorem kX8_189 : am_mv_ RX8 189 3 yX3_enter 3 wX3_enter := ⟨vX3_enter, nX3_enter, (am_ux 547 (by decide +kernel) rfl), ⟨_, rfl, (am_ux 17 (by decide +kernel) rfl)⟩, Or.inr ⟨"ArmtowerLine", List.mem_of_getElem? (i := 545) (by decide +kernel)⟩⟩
theorem kX8_200 : am_mi_ RX8 200 yX4_init 1 wX4_init := ⟨vX4_init, nX4_init, (am_ux 559 (by decide +kernel) rfl), rfl, Or.inr ⟨"ArmtowerLine", List.mem_of_getElem? (i := 558) (by decide +kernel)⟩⟩
theorem kX8_203 : am_mv_ RX8 203 8 yX8_passOne 0 wX8_passOne := ⟨vX8_passOne, nX8_passOne, (am_ux 585 (by decide +kernel) rfl), ⟨_, rfl, (am_ux 18 (by decide +kernel) rfl)⟩, Or.inl (am_ux 583 (by decide +kernel) rfl)⟩
theorem kX8_206 : am_mv_ RX8 206 8 yX8_isSeenAlong 1 wX8_isSeenAlong := ⟨vX8_isSeenAlong, nX8_isSeenAlong, (am_ux 596 (by decide +kernel) rfl), ⟨_, rfl, (am_ux 20 (by decide +kernel) rfl)⟩, Or.inl (am_ux 594 (by decide +kernel) rfl)⟩
theorem kX8_225 : am_mv_ RX8 225 3 yX3_tell 2 wX3_tell := ⟨vX3_tell, nX3_tell, (am_ux 714 (by decide +kernel) rfl), ⟨_, rfl, (am_ux 33 (by decide +kernel) rfl)⟩, Or.inr ⟨"ArmtowerLine", List.mem_of_getElem? (i := 712) (by decide +kernel)⟩⟩
theorem kX8_228 : am_ms_ RX8 228 yX8_firstUnlike 2 wX8_firstUnlike := ⟨vX8_firstUnlike, nX8_firstUnlike, (am_ux 724 (by decide +kernel) rfl), (am_ux 723 (by decide +kernel) rfl)⟩
theorem kX8_232 : am_mv_ RX8 232 8 yX8_tapeOf 1 wX8_tapeOf := ⟨vX8_tapeOf, nX8_tapeOf, (am_ux 196 (by decide +kernel) rfl), ⟨_, rfl, (am_ux 0 (by decide +kernel) rfl)⟩, Or.inl (am_ux 194 (by decide +kernel) rfl)⟩
theorem kX8_239 : am_mv_ RX8 239 8 yX8_dispatchAt 2 wX8_dispatchAt := ⟨vX8_dispatchAt, nX8_dispatchAt, (am_ux 739 (by decide +kernel) rfl), ⟨_, rfl, (am_ux 35 (by decide +kernel) rfl)⟩, Or.inl (am_ux 737 (by decide +kernel) rfl)⟩
theorem kX8_243 : am_mv_ RX8 243 2 yX2_tell 1 wX2_tell := ⟨vX2_tell, nX2_tell, (am_ux 744 (by decide +kernel) rfl), ⟨_, rfl, (am_ux 36 (by decide +kernel) rfl)⟩, Or.inr ⟨"ArmtowerLine", List.mem_of_getElem? (i := 742) (by decide +kernel)⟩⟩
theorem kX8_247 : am_mv_ RX8 247 2 yX2_spots 0 wX2_spots := ⟨vX2_spots, nX2_spots, (am_ux 748 (by decide +kernel) rfl), ⟨_, rfl, (am_ux 37 (by decide +kernel) rfl)⟩, Or.inr ⟨"ArmtowerLine", List.mem_of_getElem? (i := 757) (by decide +kernel)⟩⟩
theorem kX8_259 : am_mv_ RX8 259 8 yX8_spyAt 1 wX8_spyAt := ⟨vX8_spyAt, nX8_spyAt, (am_ux 768 (by decide +kernel) rfl), ⟨_, rfl, (am_ux 38 (by decide +kernel) rfl)⟩, Or.inl (am_ux 766 (by decide +kernel) rfl)⟩
theorem kX8_267 : am_ms_ RX8 267 yX8_minutesOfTrial 2 wX8_minutesOfTrial := ⟨vX8_minutesOfTrial, nX8_minutesOfTrial, (am_ux 794 (by decide +kernel) rfl), (am_ux 793 (by decide +kernel) rfl)⟩
theorem kX8_284 : am_mv_ RX8 284 8 yX8_isDay 0 wX8_isDay := ⟨vX8_isDay, nX8_isDay, (am_ux 600 (by decide +kernel) rfl), ⟨_, rfl, (am_ux 21 (by decide +kernel) rfl)⟩, Or.inl (am_ux 598 (by decide +kernel) rfl)⟩
theorem kX8_291 : am_mv_ RX8 291 5 yX5_isClear 2 wX5_isClear := ⟨vX5_isClear, nX5_isClear, (am_ux 604 (by decide +kernel) rfl), ⟨_, rfl, (am_ux 22 (by decide +kernel) rfl)⟩, Or.inr ⟨"ArmtowerLine", List.mem_of_getElem? (i := 602) (by decide +kernel)⟩⟩
theorem kX8_294 : am_mv_ RX8 294 1 yX1_lowestSpotOf 1 wX1_lowestSpotOf := ⟨vX1_lowestSpotOf, nX1_lowestSpotOf, (am_ux 514 (by decide +kernel) rfl), ⟨_, rfl, (am_ux 12 (by decide +kernel) rfl)⟩, Or.inr ⟨"ArmtowerLine", List.mem_of_getElem? (i := 512) (by decide +kernel)⟩⟩
theorem kX8_297 : am_mv_ RX8 297 8 yX8_look 2 wX8_look := ⟨vX8_look, nX8_look, (am_ux 589 (by decide +kernel) rfl), ⟨_, rfl, (am_ux 19 (by decide +kernel) rfl)⟩, Or.inl (am_ux 587 (by decide +kernel) rfl)⟩
theorem kX8_301 : am_mv_ RX8 301 8 yX8_showNext 2 wX8_showNext := ⟨vX8_showNext, nX8_showNext, (am_ux 660 (by decide +kernel) rfl), ⟨_, rfl, (am_ux 29 (by decide +kernel) rfl)⟩, Or.inl (am_ux 658 (by decide +kernel) rfl)⟩
theorem kX8_304 : am_ms_ RX8 304 yJ9_min_7cf53 2 wJ9_min_7cf53 := ⟨vJ9_min_7cf53, nJ9_min_7cf53, (am_ux 592 (by decide +kernel) rfl), (am_ux 591 (by decide +kernel) rfl)⟩
theorem kX8_309 : am_mv_ RX8 309 8 yX8_signAsRead 2 wX8_signAsRead := ⟨vX8_signAsRead, nX8_signAsRead, (am_ux 608 (by decide +kernel) rfl), ⟨_, rfl, (am_ux 23 (by decide +kernel) rfl)⟩, Or.inl (am_ux 606 (by decide +kernel) rfl)⟩
theorem kX8_312 : am_mv_ RX8 312 6 yX6_putOn 2 wX6_putOn := ⟨vX6_putOn, nX6_putOn, (am_ux 612 (by decide +kernel) rfl), ⟨_, rfl, (am_ux 24 (by decide +kernel) rfl)⟩, Or.inr ⟨"ArmtowerLine", List.mem_of_getElem? (i := 610) (by decide +kernel)⟩⟩
theorem kX8_316 : am_mv_ RX8 316 0 yX0_removeFirst 0 wX0_removeFirst := ⟨vX0_removeFirst, nX0_removeFirst, (am_ux 664 (by decide +kernel) rfl), ⟨_, rfl, (am_ux 30 (by decide +kernel) rfl)⟩, Or.inr ⟨"ArmtowerLine", List.mem_of_getElem? (i := 662) (by decide +kernel)⟩⟩
theorem kX8_319 : am_mv_ RX8 319 8 yX8_tellSpies 2 wX8_tellSpies := ⟨vX8_tellSpies, nX8_tellSpies, (am_ux 668 (by decide +kernel) rfl), ⟨_, rfl, (am_ux 31 (by decide +kernel) rfl)⟩, Or.inl (am_ux 666 (by decide +kernel) rfl)⟩
theorem kX8_325 : am_mv_ RX8 325 4 yX4_note 1 wX4_note := ⟨vX4_note, nX4_note, (am_ux 672 (by decide +kernel) rfl), ⟨_, rfl, (am_ux 32 (by decide +kernel) rfl)⟩, Or.inr ⟨"ArmtowerLine", List.mem_of_getElem? (i := 670) (by decide +kernel)⟩⟩
theorem kX8_328 : am_mv_ RX8 328 3 yX3_nextTaken 1 wX3_nextTaken := ⟨vX3_nextTaken, nX3_nextTaken, (am_ux 728 (by decide +kernel) rfl), ⟨_, rfl, (am_ux 34 (by decide +kernel) rfl)⟩, Or.inr ⟨"ArmtowerLine", List.mem_of_getElem? (i := 726) (by decide +kernel)⟩⟩
theorem kX8_333 : am_ms_ RX8 333 yX8_passTrialMinute 3 wX8_passTrialMinute := ⟨vX8_passTrialMinute, nX8_passTrialMinute, (am_ux 798 (by decide +kernel) rfl), (am_ux 797 (by decide +kernel) rfl)⟩
theorem kX9_129 : am_ms_ RX9 129 yX9_in 3 wX9_in := ⟨vX9_in, nX9_in, (am_ux 945 (by decide +kernel) rfl), (am_ux 944 (by decide +kernel) rfl)⟩
theorem kX9_137 : am_mv_ RX9 137 9 yX9_isStretch 1 wX9_isStretch := ⟨vX9_isStretch, nX9_isStretch, (am_ux 953 (by decide +kernel) rfl), ⟨_, rfl, (am_ux 39 (by decide +kernel) rfl)⟩, Or.inl (am_ux 951 (by decide +kernel) rfl)⟩
theorem kX9_141 : am_mv_ RX9 141 9 yX9_isTower 1 wX9_isTower := ⟨vX9_isTower, nX9_isTower, (am_ux 965 (by decide +kernel) rfl), ⟨_, rfl, (am_ux 40 (by decide +kernel) rfl)⟩, Or.inl (am_ux 963 (by decide +kernel) rfl)⟩
theorem kX9_147 : am_mv_ RX9 147 9 yX9_isDay 0 wX9_isDay := ⟨vX9_isDay, nX9_isDay, (am_ux 1039 (by decide +kernel) rfl), ⟨_, rfl, (am_ux 49 (by decide +kernel) rfl)⟩, Or.inl (am_ux 1037 (by decide +kernel) rfl)⟩
theorem kX9_151 : am_ms_ RX9 151 yX9_down 2 wX9_down := ⟨vX9_down, nX9_down, (am_ux 1042 (by decide +kernel) rfl), (am_ux 1041 (by decide +kernel) rfl)⟩
theorem kX9_155 : am_ms_ RX9 155 yX9_isBook 1 wX9_isBook := ⟨vX9_isBook, nX9_isBook, (am_ux 976 (by decide +kernel) rfl), (am_ux 975 (by decide +kernel) rfl)⟩
theorem kX9_158 : am_mv_ RX9 158 9 yX9_spotOf 2 wX9_spotOf := ⟨vX9_spotOf, nX9_spotOf, (am_ux 980 (by decide +kernel) rfl), ⟨_, rfl, (am_ux 41 (by decide +kernel) rfl)⟩, Or.inl (am_ux 978 (by decide +kernel) rfl)⟩
theorem kX9_164 : am_mv_ RX9 164 9 yX9_lowestSpot 2 wX9_lowestSpot := ⟨vX9_lowestSpot, nX9_lowestSpot, (am_ux 1000 (by decide +kernel) rfl), ⟨_, rfl, (am_ux 43 (by decide +kernel) rfl)⟩, Or.inl (am_ux 998 (by decide +kernel) rfl)⟩
theorem kX9_167 : am_mv_ RX9 167 9 yX9_makesSigns 2 wX9_makesSigns := ⟨vX9_makesSigns, nX9_makesSigns, (am_ux 996 (by decide +kernel) rfl), ⟨_, rfl, (am_ux 42 (by decide +kernel) rfl)⟩, Or.inl (am_ux 994 (by decide +kernel) rfl)⟩
theorem kX9_171 : am_ms_ RX9 171 yX9_at 2 wX9_at := ⟨vX9_at, nX9_at, (am_ux 1003 (by decide +kernel) rfl), (am_ux 1002 (by decide +kernel) rfl)⟩
theorem kX9_174 : am_mv_ RX9 174 9 yX9_keepsAt 3 wX9_keepsAt := ⟨vX9_keepsAt, nX9_keepsAt, (am_ux 1007 (by decide +kernel) rfl), ⟨_, rfl, (am_ux 44 (by decide +kernel) rfl)⟩, Or.inl (am_ux 1005 (by decide +kernel) rfl)⟩
theorem kX9_178 : am_mv_ RX9 178 9 yX9_isEnd 2 wX9_isEnd := ⟨vX9_isEnd, nX9_isEnd, (am_ux 1015 (by decide +kernel) rfl), ⟨_, rfl, (am_ux 45 (by decide +kernel) rfl)⟩, Or.inl (am_ux 1013 (by decide +kernel) rfl)⟩
theorem kX9_182 : am_mv_ RX9 182 9 yX9_writes 3 wX9_writes := ⟨vX9_writes, nX9_writes, (am_ux 1019 (by decide +kernel) rfl), ⟨_, rfl, (am_ux 46 (by decide +kernel) rfl)⟩, Or.inl (am_ux 1017 (by decide +kernel) rfl)⟩
theorem kX9_189 : am_mv_ RX9 189 9 yX9_opens 2 wX9_opens := ⟨vX9_opens, nX9_opens, (am_ux 1054 (by decide +kernel) rfl), ⟨_, rfl, (am_ux 52 (by decide +kernel) rfl)⟩, Or.inl (am_ux 1052 (by decide +kernel) rfl)⟩
theorem kX9_193 : am_mv_ RX9 193 9 yX9_ends 1 wX9_ends := ⟨vX9_ends, nX9_ends, (am_ux 1058 (by decide +kernel) rfl), ⟨_, rfl, (am_ux 53 (by decide +kernel) rfl)⟩, Or.inl (am_ux 1056 (by decide +kernel) rfl)⟩
theorem kX9_197 : am_mv_ RX9 197 9 yX9_seesAlong 1 wX9_seesAlong := ⟨vX9_seesAlong, nX9_seesAlong, (am_ux 1035 (by decide +kernel) rfl), ⟨_, rfl, (am_ux 48 (by decide +kernel) rfl)⟩, Or.inl (am_ux 1033 (by decide +kernel) rfl)⟩
theorem kX9_200 : am_mv_ RX9 200 9 yX9_reads 2 wX9_reads := ⟨vX9_reads, nX9_reads, (am_ux 1046 (by decide +kernel) rfl), ⟨_, rfl, (am_ux 50 (by decide +kernel) rfl)⟩, Or.inl (am_ux 1044 (by decide +kernel) rfl)⟩
theorem kX9_203 : am_mv_ RX9 203 9 yX9_tapes 2 wX9_tapes := ⟨vX9_tapes, nX9_tapes, (am_ux 1050 (by decide +kernel) rfl), ⟨_, rfl, (am_ux 51 (by decide +kernel) rfl)⟩, Or.inl (am_ux 1048 (by decide +kernel) rfl)⟩
theorem kX9_207 : am_mv_ RX9 207 9 yX9_spies 2 wX9_spies := ⟨vX9_spies, nX9_spies, (am_ux 1066 (by decide +kernel) rfl), ⟨_, rfl, (am_ux 55 (by decide +kernel) rfl)⟩, Or.inl (am_ux 1064 (by decide +kernel) rfl)⟩
theorem kX9_210 : am_mv_ RX9 210 9 yX9_looks 2 wX9_looks := ⟨vX9_looks, nX9_looks, (am_ux 1031 (by decide +kernel) rfl), ⟨_, rfl, (am_ux 47 (by decide +kernel) rfl)⟩, Or.inl (am_ux 1029 (by decide +kernel) rfl)⟩
theorem kX9_213 : am_mv_ RX9 213 9 yX9_turnsTo 3 wX9_turnsTo := ⟨vX9_turnsTo, nX9_turnsTo, (am_ux 1062 (by decide +kernel) rfl), ⟨_, rfl, (am_ux 54 (by decide +kernel) rfl)⟩, Or.inl (am_ux 1060 (by decide +kernel) rfl)⟩
theorem kX9_217 : am_mv_ RX9 217 9 yX9_nextRead 2 wX9_nextRead := ⟨vX9_nextRead, nX9_nextRead, (am_ux 1102 (by decide +kernel) rfl), ⟨_, rfl, (am_ux 56 (by decide +kernel) rfl)⟩, Or.inl (am_ux 1100 (by decide +kernel) rfl)⟩
theorem lL_8 : am_cl RL 8 8 14 := ⟨_, rfl, rfl, (am_ux 76 (by decide +kernel) rfl), (am_ux 77 (by decide +kernel) rfl), (am_ux 58 (by decide +kernel) rfl)⟩
theorem lL_98 : am_cl RL 98 9 43 := ⟨_, rfl, rfl, (am_ux 800 (by decide +kernel) rfl), (am_ux 801 (by decide +kernel) rfl), (am_ux 61 (by decide +kernel) rfl)⟩
theorem lX0_19 : am_cl RX0 19 3 4 := ⟨_, rfl, rfl, (am_ux 309 (by decide +kernel) rfl), (am_ux 310 (by decide +kernel) rfl), (am_ux 69 (by decide +kernel) rfl)⟩
theorem aX6_9 : Cond.classLink RX6 9 RX2 ∈ am_uw ∧ Cond.arrayOver (.object RX2) ∈ lw_tbl := ⟨(am_ux 112 (by decide +kernel) rfl), List.mem_of_getElem? (i := 113) (by decide +kernel)⟩
theorem lX6_9 : am_cl RX6 9 2 6 := ⟨_, rfl, rfl, (am_ux 112 (by decide +kernel) rfl), (am_ux 622 (by decide +kernel) rfl), (am_ux 75 (by decide +kernel) rfl)⟩
theorem lX7_13 : am_cl RX7 13 0 5 := ⟨_, rfl, rfl, (am_ux 303 (by decide +kernel) rfl), (am_ux 304 (by decide +kernel) rfl), (am_ux 68 (by decide +kernel) rfl)⟩
theorem aX8_9 : Cond.classLink RX8 9 RX7 ∈ am_uw ∧ Cond.arrayOver (.object RX7) ∈ lw_tbl := ⟨(am_ux 84 (by decide +kernel) rfl), List.mem_of_getElem? (i := 85) (by decide +kernel)⟩
theorem lX8_9 : am_cl RX8 9 7 4 := ⟨_, rfl, rfl, (am_ux 84 (by decide +kernel) rfl), (am_ux 298 (by decide +kernel) rfl), (am_ux 67 (by decide +kernel) rfl)⟩
theorem aX8_15 : Cond.classLink RX8 15 RX5 ∈ am_uw ∧ Cond.arrayOver (.object RX5) ∈ lw_tbl := ⟨(am_ux 86 (by decide +kernel) rfl), List.mem_of_getElem? (i := 87) (by decide +kernel)⟩
theorem lX8_15 : am_cl RX8 15 5 5 := ⟨_, rfl, rfl, (am_ux 86 (by decide +kernel) rfl), (am_ux 367 (by decide +kernel) rfl), (am_ux 70 (by decide +kernel) rfl)⟩
theorem aX8_25 : Cond.classLink RX8 25 RX1 ∈ am_uw ∧ Cond.arrayOver (.object RX1) ∈ lw_tbl := ⟨(am_ux 88 (by decide +kernel) rfl), List.mem_of_getElem? (i := 89) (by decide +kernel)⟩
theorem lX8_25 : am_cl RX8 25 1 3 := ⟨_, rfl, rfl, (am_ux 88 (by decide +kernel) rfl), (am_ux 90 (by decide +kernel) rfl), (am_ux 59 (by decide +kernel) rfl)⟩
theorem lX8_39 : am_cl RX8 39 6 5 := ⟨_, rfl, rfl, (am_ux 106 (by decide +kernel) rfl), (am_ux 107 (by decide +kernel) rfl), (am_ux 60 (by decide +kernel) rfl)⟩
theorem aX8_49 : Cond.classLink RX8 49 RX4 ∈ am_uw ∧ Cond.arrayOver (.object RX4) ∈ lw_tbl := ⟨(am_ux 133 (by decide +kernel) rfl), List.mem_of_getElem? (i := 134) (by decide +kernel)⟩
theorem lX8_49 : am_cl RX8 49 4 3 := ⟨_, rfl, rfl, (am_ux 133 (by decide +kernel) rfl), (am_ux 557 (by decide +kernel) rfl), (am_ux 73 (by decide +kernel) rfl)⟩
theorem x_thr0 : am_thr RX8 212 216 0 := ⟨(am_ux 403 (by decide +kernel) rfl), (am_ux 71 (by decide +kernel) rfl), by decide +kernel, by decide +kernel, by decide +kernel⟩
theorem x_cst0 : Cond.castable (am_ex 0) (am_ex 0) ∈ lw_tbl := List.mem_of_getElem? (i := 405) (by decide +kernel)
theorem x_thr1 : am_thr RX8 59 63 1 := ⟨(am_ux 214 (by decide +kernel) rfl), (am_ux 65 (by decide +kernel) rfl), by decide +kernel, by decide +kernel, by decide +kernel⟩
theorem x_cst1 : Cond.castable (am_ex 1) (am_ex 1) ∈ lw_tbl := List.mem_of_getElem? (i := 216) (by decide +kernel)
theorem x_thr2 : am_thr RX8 73 77 2 := ⟨(am_ux 282 (by decide +kernel) rfl), (am_ux 66 (by decide +kernel) rfl), by decide +kernel, by decide +kernel, by decide +kernel⟩
theorem x_cst2 : Cond.castable (am_ex 2) (am_ex 2) ∈ lw_tbl := List.mem_of_getElem? (i := 284) (by decide +kernel)
theorem x_law13 : Cond.classLink RL 13 "java/lang/IllegalArgumentException" ∈ am_uw := (am_ux 205 (by decide +kernel) rfl)
theorem x_law15 : Cond.classLink RL 15 "java/lang/IllegalStateException" ∈ am_uw := (am_ux 206 (by decide +kernel) rfl)
theorem x_tx61 : Cond.stringRef RX8 61 "height or far is out of range" ∈ lw_tbl := List.mem_of_getElem? (i := 255) (by decide +kernel)
theorem x_tx75 : Cond.stringRef RX8 75 "there are 12 towers, or the line is in use" ∈ lw_tbl := List.mem_of_getElem? (i := 291) (by decide +kernel)
theorem x_law21 : Cond.classLink RL 21 "java/lang/IndexOutOfBoundsException" ∈ am_uw := (am_ux 394 (by decide +kernel) rfl)
theorem x_tx272 : Cond.stringRef RX8 272 "no such stretch" ∈ lw_tbl := List.mem_of_getElem? (i := 412) (by decide +kernel)
theorem x_tx89 : Cond.stringRef RX8 89 "height or place is out of range" ∈ lw_tbl := List.mem_of_getElem? (i := 419) (by decide +kernel)
theorem x_tx95 : Cond.stringRef RX8 95 "the stretch has 3 hills" ∈ lw_tbl := List.mem_of_getElem? (i := 424) (by decide +kernel)
theorem x_tx100 : Cond.stringRef RX8 100 "air is out of range" ∈ lw_tbl := List.mem_of_getElem? (i := 432) (by decide +kernel)
theorem x_tx270 : Cond.stringRef RX8 270 "no such tower" ∈ lw_tbl := List.mem_of_getElem? (i := 444) (by decide +kernel)
theorem x_tx109 : Cond.stringRef RX8 109 "tiredness is out of range" ∈ lw_tbl := List.mem_of_getElem? (i := 445) (by decide +kernel)
theorem x_tx114 : Cond.stringRef RX8 114 "seed is out of range" ∈ lw_tbl := List.mem_of_getElem? (i := 453) (by decide +kernel)
theorem x_tx274 : Cond.stringRef RX8 274 "no such book" ∈ lw_tbl := List.mem_of_getElem? (i := 465) (by decide +kernel)
theorem x_tx123 : Cond.stringRef RX8 123 "page, line or phrase is out of range" ∈ lw_tbl := List.mem_of_getElem? (i := 466) (by decide +kernel)
theorem x_tx136 : Cond.stringRef RX8 136 "the book has 200 spots" ∈ lw_tbl := List.mem_of_getElem? (i := 490) (by decide +kernel)
theorem x_tx138 : Cond.stringRef RX8 138 "phrase is out of range" ∈ lw_tbl := List.mem_of_getElem? (i := 498) (by decide +kernel)
theorem x_tx143 : Cond.stringRef RX8 143 "the text has 12 phrases" ∈ lw_tbl := List.mem_of_getElem? (i := 499) (by decide +kernel)
theorem x_tx145 : Cond.stringRef RX8 145 "there are fewer than 2 towers, or no text" ∈ lw_tbl := List.mem_of_getElem? (i := 507) (by decide +kernel)
theorem x_tx151 : Cond.stringRef RX8 151 "a phrase is not in the book" ∈ lw_tbl := List.mem_of_getElem? (i := 516) (by decide +kernel)
theorem x_tx166 : Cond.stringRef RX8 166 "the tower would keep more than 200 signs" ∈ lw_tbl := List.mem_of_getElem? (i := 524) (by decide +kernel)
theorem x_tx183 : Cond.stringRef RX8 183 "the way ends there, or the tower would keep more than 200 signs" ∈ lw_tbl := List.mem_of_getElem? (i := 544) (by decide +kernel)
theorem x_tx198 : Cond.stringRef RX8 198 "there are 6 spies, or the tower is the last one" ∈ lw_tbl := List.mem_of_getElem? (i := 556) (by decide +kernel)
theorem x_tx201 : Cond.stringRef RX8 201 "minutes is out of range" ∈ lw_tbl := List.mem_of_getElem? (i := 582) (by decide +kernel)
theorem x_tx214 : Cond.stringRef RX8 214 "place is below 0" ∈ lw_tbl := List.mem_of_getElem? (i := 695) (by decide +kernel)
theorem x_tx221 : Cond.stringRef RX8 221 "entry is below 0" ∈ lw_tbl := List.mem_of_getElem? (i := 710) (by decide +kernel)
theorem x_tx223 : Cond.stringRef RX8 223 "what is out of range" ∈ lw_tbl := List.mem_of_getElem? (i := 711) (by decide +kernel)
theorem x_tx278 : Cond.stringRef RX8 278 "no such dispatch" ∈ lw_tbl := List.mem_of_getElem? (i := 741) (by decide +kernel)
theorem x_tx251 : Cond.stringRef RX8 251 "no such place" ∈ lw_tbl := List.mem_of_getElem? (i := 758) (by decide +kernel)
theorem x_tx276 : Cond.stringRef RX8 276 "no such spy" ∈ lw_tbl := List.mem_of_getElem? (i := 770) (by decide +kernel)
theorem x_tx265 : Cond.stringRef RX8 265 "signs is out of range" ∈ lw_tbl := List.mem_of_getElem? (i := 785) (by decide +kernel)
theorem x_con332 : Cond.constant RX8 332 100000 ∈ am_uw := (am_ux 796 (by decide +kernel) rfl)
theorem oX0 : Cond.methodLink RX0 3 Lib.objectInit ∈ am_uw := (am_ux 308 (by decide +kernel) rfl)
theorem gX0_32 : Cond.methodLink RX0 32 arraycopyName ∈ am_uw := (am_ux 521 (by decide +kernel) rfl)
theorem oX1 : Cond.methodLink RX1 3 Lib.objectInit ∈ am_uw := (am_ux 94 (by decide +kernel) rfl)
theorem oX2 : Cond.methodLink RX2 3 Lib.objectInit ∈ am_uw := (am_ux 626 (by decide +kernel) rfl)
theorem oX3 : Cond.methodLink RX3 3 Lib.objectInit ∈ am_uw := (am_ux 314 (by decide +kernel) rfl)
theorem oX4 : Cond.methodLink RX4 3 Lib.objectInit ∈ am_uw := (am_ux 561 (by decide +kernel) rfl)
theorem oX5 : Cond.methodLink RX5 3 Lib.objectInit ∈ am_uw := (am_ux 371 (by decide +kernel) rfl)
theorem oX6 : Cond.methodLink RX6 3 Lib.objectInit ∈ am_uw := (am_ux 111 (by decide +kernel) rfl)
theorem oX7 : Cond.methodLink RX7 1 Lib.objectInit ∈ am_uw := (am_ux 302 (by decide +kernel) rfl)
theorem oX8 : Cond.methodLink RX8 3 Lib.objectInit ∈ am_uw := (am_ux 81 (by decide +kernel) rfl)
theorem oX9 : Cond.methodLink RX9 1 Lib.objectInit ∈ am_uw := (am_ux 805 (by decide +kernel) rfl)
theorem x_oi1 : Cond.instanceMethod Lib.objectInit ∈ am_uw := (am_ux 82 (by decide +kernel) rfl)
theorem x_oi2 : Cond.code Lib.objectInit ⟨#[0xb1]⟩ 1 none ∈ am_uw := by decide +kernel
theorem x_ac1 : Cond.native arraycopyName ∈ am_uw := (am_ux 523 (by decide +kernel) rfl)
theorem x_ac2 : Cond.static arraycopyName ∈ am_uw := (am_ux 522 (by decide +kernel) rfl)
theorem x_ac3 : Cond.initialized "java/lang/System" ∈ am_uw := (am_ux 72 (by decide +kernel) rfl)
theorem x_arr0 : Cond.arrayClass (am_ty 0) ∈ am_uw := (am_ux 105 (by decide +kernel) rfl)
theorem x_arr1 : Cond.arrayClass (am_ty 1) ∈ am_uw := (am_ux 330 (by decide +kernel) rfl)
theorem x_arr2 : Cond.arrayClass (am_ty 2) ∈ am_uw := (am_ux 1136 (by decide +kernel) rfl)
end
section
theorem eX0_init_0 : am_d cX0_init 0 (.aload_n 0) 1 1 := ⟨by decide +kernel, rfl⟩
theorem eX0_init_1 : am_d cX0_init 1 (.invokespecial 3) 3 4 := ⟨by decide +kernel, rfl⟩
theorem eX0_init_4 : am_d cX0_init 4 (.aload_n 0) 1 5 := ⟨by decide +kernel, rfl⟩
theorem eX0_init_5 : am_d cX0_init 5 (.sipush 200) 3 8 := ⟨by decide +kernel, rfl⟩
theorem eX0_init_8 : am_d cX0_init 8 (.newarray .int) 2 10 := ⟨by decide +kernel, rfl⟩
theorem eX0_init_10 : am_d cX0_init 10 (.putfield 9) 3 13 := ⟨by decide +kernel, rfl⟩
theorem eX0_init_13 : am_d cX0_init 13 (.aload_n 0) 1 14 := ⟨by decide +kernel, rfl⟩
theorem eX0_init_14 : am_d cX0_init 14 (.iconst (-1)) 1 15 := ⟨by decide +kernel, rfl⟩
theorem eX0_init_15 : am_d cX0_init 15 (.putfield 15) 3 18 := ⟨by decide +kernel, rfl⟩
theorem eX0_init_18 : am_d cX0_init 18 (.aload_n 0) 1 19 := ⟨by decide +kernel, rfl⟩
theorem eX0_init_19 : am_d cX0_init 19 (.new 19) 3 22 := ⟨by decide +kernel, rfl⟩
theorem eX0_init_22 : am_d cX0_init 22 (.dup) 1 23 := ⟨by decide +kernel, rfl⟩
theorem eX0_init_23 : am_d cX0_init 23 (.invokespecial 21) 3 26 := ⟨by decide +kernel, rfl⟩
theorem eX0_init_26 : am_d cX0_init 26 (.putfield 22) 3 29 := ⟨by decide +kernel, rfl⟩
theorem eX0_init_29 : am_d cX0_init 29 (.return_) 1 30 := ⟨by decide +kernel, rfl⟩
theorem eX0_keepOne_0 : am_d cX0_keepOne 0 (.aload_n 0) 1 1 := ⟨by decide +kernel, rfl⟩
theorem eX0_keepOne_1 : am_d cX0_keepOne 1 (.getfield 26) 3 4 := ⟨by decide +kernel, rfl⟩
theorem eX0_keepOne_4 : am_d cX0_keepOne 4 (.sipush 200) 3 7 := ⟨by decide +kernel, rfl⟩
theorem eX0_keepOne_7 : am_b cX0_keepOne 7 (.if_icmp .lt 5) (5) 10 12 := ⟨by decide +kernel, rfl, by decide⟩
theorem eX0_keepOne_10 : am_d cX0_keepOne 10 (.iconst 0) 1 11 := ⟨by decide +kernel, rfl⟩
theorem eX0_keepOne_11 : am_d cX0_keepOne 11 (.ireturn) 1 12 := ⟨by decide +kernel, rfl⟩
theorem eX0_keepOne_12 : am_d cX0_keepOne 12 (.aload_n 0) 1 13 := ⟨by decide +kernel, rfl⟩
theorem eX0_keepOne_13 : am_d cX0_keepOne 13 (.getfield 9) 3 16 := ⟨by decide +kernel, rfl⟩
theorem eX0_keepOne_16 : am_d cX0_keepOne 16 (.aload_n 0) 1 17 := ⟨by decide +kernel, rfl⟩
theorem eX0_keepOne_17 : am_d cX0_keepOne 17 (.getfield 26) 3 20 := ⟨by decide +kernel, rfl⟩
theorem eX0_keepOne_20 : am_d cX0_keepOne 20 (.iload_n 1) 1 21 := ⟨by decide +kernel, rfl⟩
theorem eX0_keepOne_21 : am_d cX0_keepOne 21 (.iastore) 1 22 := ⟨by decide +kernel, rfl⟩
theorem eX0_keepOne_22 : am_d cX0_keepOne 22 (.aload_n 0) 1 23 := ⟨by decide +kernel, rfl⟩
theorem eX0_keepOne_23 : am_d cX0_keepOne 23 (.dup) 1 24 := ⟨by decide +kernel, rfl⟩
theorem eX0_keepOne_24 : am_d cX0_keepOne 24 (.getfield 26) 3 27 := ⟨by decide +kernel, rfl⟩
theorem eX0_keepOne_27 : am_d cX0_keepOne 27 (.iconst 1) 1 28 := ⟨by decide +kernel, rfl⟩
theorem eX0_keepOne_28 : am_d cX0_keepOne 28 (.iadd) 1 29 := ⟨by decide +kernel, rfl⟩
theorem eX0_keepOne_29 : am_d cX0_keepOne 29 (.putfield 26) 3 32 := ⟨by decide +kernel, rfl⟩
theorem eX0_keepOne_32 : am_d cX0_keepOne 32 (.iconst 1) 1 33 := ⟨by decide +kernel, rfl⟩
theorem eX0_keepOne_33 : am_d cX0_keepOne 33 (.ireturn) 1 34 := ⟨by decide +kernel, rfl⟩
theorem eX0_keepAll_0 : am_d cX0_keepAll 0 (.aload_n 0) 1 1 := ⟨by decide +kernel, rfl⟩
theorem eX0_keepAll_1 : am_d cX0_keepAll 1 (.getfield 26) 3 4 := ⟨by decide +kernel, rfl⟩
theorem eX0_keepAll_4 : am_d cX0_keepAll 4 (.iload_n 2) 1 5 := ⟨by decide +kernel, rfl⟩
theorem eX0_keepAll_5 : am_d cX0_keepAll 5 (.iadd) 1 6 := ⟨by decide +kernel, rfl⟩
theorem eX0_keepAll_6 : am_d cX0_keepAll 6 (.sipush 200) 3 9 := ⟨by decide +kernel, rfl⟩
theorem eX0_keepAll_9 : am_b cX0_keepAll 9 (.if_icmp .le 5) (5) 12 14 := ⟨by decide +kernel, rfl, by decide⟩
theorem eX0_keepAll_12 : am_d cX0_keepAll 12 (.iconst 0) 1 13 := ⟨by decide +kernel, rfl⟩
theorem eX0_keepAll_13 : am_d cX0_keepAll 13 (.ireturn) 1 14 := ⟨by decide +kernel, rfl⟩
theorem eX0_keepAll_14 : am_d cX0_keepAll 14 (.iload_n 3) 1 15 := ⟨by decide +kernel, rfl⟩
theorem eX0_keepAll_15 : am_b cX0_keepAll 15 (.ifCond .eq 10) (10) 18 25 := ⟨by decide +kernel, rfl, by decide⟩
theorem eX0_keepAll_18 : am_d cX0_keepAll 18 (.aload_n 0) 1 19 := ⟨by decide +kernel, rfl⟩
theorem eX0_keepAll_19 : am_d cX0_keepAll 19 (.getfield 29) 3 22 := ⟨by decide +kernel, rfl⟩
theorem eX0_keepAll_22 : am_b cX0_keepAll 22 (.goto 7) (7) 25 29 := ⟨by decide +kernel, rfl, by decide⟩
theorem eX0_keepAll_25 : am_d cX0_keepAll 25 (.aload_n 0) 1 26 := ⟨by decide +kernel, rfl⟩
theorem eX0_keepAll_26 : am_d cX0_keepAll 26 (.getfield 26) 3 29 := ⟨by decide +kernel, rfl⟩
theorem eX0_keepAll_29 : am_d cX0_keepAll 29 (.istore 4) 2 31 := ⟨by decide +kernel, rfl⟩
theorem eX0_keepAll_31 : am_d cX0_keepAll 31 (.aload_n 0) 1 32 := ⟨by decide +kernel, rfl⟩
theorem eX0_keepAll_32 : am_d cX0_keepAll 32 (.getfield 9) 3 35 := ⟨by decide +kernel, rfl⟩
theorem eX0_keepAll_35 : am_d cX0_keepAll 35 (.iload 4) 2 37 := ⟨by decide +kernel, rfl⟩
theorem eX0_keepAll_37 : am_d cX0_keepAll 37 (.aload_n 0) 1 38 := ⟨by decide +kernel, rfl⟩
theorem eX0_keepAll_38 : am_d cX0_keepAll 38 (.getfield 9) 3 41 := ⟨by decide +kernel, rfl⟩
theorem eX0_keepAll_41 : am_d cX0_keepAll 41 (.iload 4) 2 43 := ⟨by decide +kernel, rfl⟩
theorem eX0_keepAll_43 : am_d cX0_keepAll 43 (.iload_n 2) 1 44 := ⟨by decide +kernel, rfl⟩
theorem eX0_keepAll_44 : am_d cX0_keepAll 44 (.iadd) 1 45 := ⟨by decide +kernel, rfl⟩
theorem eX0_keepAll_45 : am_d cX0_keepAll 45 (.aload_n 0) 1 46 := ⟨by decide +kernel, rfl⟩
theorem eX0_keepAll_46 : am_d cX0_keepAll 46 (.getfield 26) 3 49 := ⟨by decide +kernel, rfl⟩
theorem eX0_keepAll_49 : am_d cX0_keepAll 49 (.iload 4) 2 51 := ⟨by decide +kernel, rfl⟩
theorem eX0_keepAll_51 : am_d cX0_keepAll 51 (.isub) 1 52 := ⟨by decide +kernel, rfl⟩
theorem eX0_keepAll_52 : am_d cX0_keepAll 52 (.invokestatic 32) 3 55 := ⟨by decide +kernel, rfl⟩
theorem eX0_keepAll_55 : am_d cX0_keepAll 55 (.aload_n 1) 1 56 := ⟨by decide +kernel, rfl⟩
theorem eX0_keepAll_56 : am_d cX0_keepAll 56 (.iconst 0) 1 57 := ⟨by decide +kernel, rfl⟩
theorem eX0_keepAll_57 : am_d cX0_keepAll 57 (.aload_n 0) 1 58 := ⟨by decide +kernel, rfl⟩
theorem eX0_keepAll_58 : am_d cX0_keepAll 58 (.getfield 9) 3 61 := ⟨by decide +kernel, rfl⟩
theorem eX0_keepAll_61 : am_d cX0_keepAll 61 (.iload 4) 2 63 := ⟨by decide +kernel, rfl⟩
theorem eX0_keepAll_63 : am_d cX0_keepAll 63 (.iload_n 2) 1 64 := ⟨by decide +kernel, rfl⟩
theorem eX0_keepAll_64 : am_d cX0_keepAll 64 (.invokestatic 32) 3 67 := ⟨by decide +kernel, rfl⟩
theorem eX0_keepAll_67 : am_d cX0_keepAll 67 (.aload_n 0) 1 68 := ⟨by decide +kernel, rfl⟩
theorem eX0_keepAll_68 : am_d cX0_keepAll 68 (.dup) 1 69 := ⟨by decide +kernel, rfl⟩
theorem eX0_keepAll_69 : am_d cX0_keepAll 69 (.getfield 26) 3 72 := ⟨by decide +kernel, rfl⟩
theorem eX0_keepAll_72 : am_d cX0_keepAll 72 (.iload_n 2) 1 73 := ⟨by decide +kernel, rfl⟩
theorem eX0_keepAll_73 : am_d cX0_keepAll 73 (.iadd) 1 74 := ⟨by decide +kernel, rfl⟩
theorem eX0_keepAll_74 : am_d cX0_keepAll 74 (.putfield 26) 3 77 := ⟨by decide +kernel, rfl⟩
theorem eX0_keepAll_77 : am_d cX0_keepAll 77 (.iload_n 3) 1 78 := ⟨by decide +kernel, rfl⟩
theorem eX0_keepAll_78 : am_b cX0_keepAll 78 (.ifCond .eq 13) (13) 81 91 := ⟨by decide +kernel, rfl, by decide⟩
theorem eX0_keepAll_81 : am_d cX0_keepAll 81 (.aload_n 0) 1 82 := ⟨by decide +kernel, rfl⟩
theorem eX0_keepAll_82 : am_d cX0_keepAll 82 (.dup) 1 83 := ⟨by decide +kernel, rfl⟩
theorem eX0_keepAll_83 : am_d cX0_keepAll 83 (.getfield 29) 3 86 := ⟨by decide +kernel, rfl⟩
theorem eX0_keepAll_86 : am_d cX0_keepAll 86 (.iload_n 2) 1 87 := ⟨by decide +kernel, rfl⟩
theorem eX0_keepAll_87 : am_d cX0_keepAll 87 (.iadd) 1 88 := ⟨by decide +kernel, rfl⟩
theorem eX0_keepAll_88 : am_d cX0_keepAll 88 (.putfield 29) 3 91 := ⟨by decide +kernel, rfl⟩
theorem eX0_keepAll_91 : am_d cX0_keepAll 91 (.iconst 1) 1 92 := ⟨by decide +kernel, rfl⟩
theorem eX0_keepAll_92 : am_d cX0_keepAll 92 (.ireturn) 1 93 := ⟨by decide +kernel, rfl⟩
theorem eX0_removeFirst_0 : am_d cX0_removeFirst 0 (.aload_n 0) 1 1 := ⟨by decide +kernel, rfl⟩
theorem eX0_removeFirst_1 : am_d cX0_removeFirst 1 (.getfield 26) 3 4 := ⟨by decide +kernel, rfl⟩
theorem eX0_removeFirst_4 : am_b cX0_removeFirst 4 (.ifCond .ne 5) (5) 7 9 := ⟨by decide +kernel, rfl, by decide⟩
theorem eX0_removeFirst_7 : am_d cX0_removeFirst 7 (.iconst (-1)) 1 8 := ⟨by decide +kernel, rfl⟩
theorem eX0_removeFirst_8 : am_d cX0_removeFirst 8 (.ireturn) 1 9 := ⟨by decide +kernel, rfl⟩
theorem eX0_removeFirst_9 : am_d cX0_removeFirst 9 (.aload_n 0) 1 10 := ⟨by decide +kernel, rfl⟩
theorem eX0_removeFirst_10 : am_d cX0_removeFirst 10 (.getfield 9) 3 13 := ⟨by decide +kernel, rfl⟩
theorem eX0_removeFirst_13 : am_d cX0_removeFirst 13 (.iconst 0) 1 14 := ⟨by decide +kernel, rfl⟩
theorem eX0_removeFirst_14 : am_d cX0_removeFirst 14 (.iaload) 1 15 := ⟨by decide +kernel, rfl⟩
theorem eX0_removeFirst_15 : am_d cX0_removeFirst 15 (.istore_n 1) 1 16 := ⟨by decide +kernel, rfl⟩
theorem eX0_removeFirst_16 : am_d cX0_removeFirst 16 (.aload_n 0) 1 17 := ⟨by decide +kernel, rfl⟩
theorem eX0_removeFirst_17 : am_d cX0_removeFirst 17 (.dup) 1 18 := ⟨by decide +kernel, rfl⟩
theorem eX0_removeFirst_18 : am_d cX0_removeFirst 18 (.getfield 26) 3 21 := ⟨by decide +kernel, rfl⟩
theorem eX0_removeFirst_21 : am_d cX0_removeFirst 21 (.iconst 1) 1 22 := ⟨by decide +kernel, rfl⟩
theorem eX0_removeFirst_22 : am_d cX0_removeFirst 22 (.isub) 1 23 := ⟨by decide +kernel, rfl⟩
theorem eX0_removeFirst_23 : am_d cX0_removeFirst 23 (.putfield 26) 3 26 := ⟨by decide +kernel, rfl⟩
theorem eX0_removeFirst_26 : am_d cX0_removeFirst 26 (.aload_n 0) 1 27 := ⟨by decide +kernel, rfl⟩
theorem eX0_removeFirst_27 : am_d cX0_removeFirst 27 (.getfield 9) 3 30 := ⟨by decide +kernel, rfl⟩
theorem eX0_removeFirst_30 : am_d cX0_removeFirst 30 (.iconst 1) 1 31 := ⟨by decide +kernel, rfl⟩
theorem eX0_removeFirst_31 : am_d cX0_removeFirst 31 (.aload_n 0) 1 32 := ⟨by decide +kernel, rfl⟩
theorem eX0_removeFirst_32 : am_d cX0_removeFirst 32 (.getfield 9) 3 35 := ⟨by decide +kernel, rfl⟩
theorem eX0_removeFirst_35 : am_d cX0_removeFirst 35 (.iconst 0) 1 36 := ⟨by decide +kernel, rfl⟩
theorem eX0_removeFirst_36 : am_d cX0_removeFirst 36 (.aload_n 0) 1 37 := ⟨by decide +kernel, rfl⟩
theorem eX0_removeFirst_37 : am_d cX0_removeFirst 37 (.getfield 26) 3 40 := ⟨by decide +kernel, rfl⟩
theorem eX0_removeFirst_40 : am_d cX0_removeFirst 40 (.invokestatic 32) 3 43 := ⟨by decide +kernel, rfl⟩
theorem eX0_removeFirst_43 : am_d cX0_removeFirst 43 (.aload_n 0) 1 44 := ⟨by decide +kernel, rfl⟩
theorem eX0_removeFirst_44 : am_d cX0_removeFirst 44 (.getfield 29) 3 47 := ⟨by decide +kernel, rfl⟩
theorem eX0_removeFirst_47 : am_b cX0_removeFirst 47 (.ifCond .le 13) (13) 50 60 := ⟨by decide +kernel, rfl, by decide⟩
theorem eX0_removeFirst_50 : am_d cX0_removeFirst 50 (.aload_n 0) 1 51 := ⟨by decide +kernel, rfl⟩
theorem eX0_removeFirst_51 : am_d cX0_removeFirst 51 (.dup) 1 52 := ⟨by decide +kernel, rfl⟩
theorem eX0_removeFirst_52 : am_d cX0_removeFirst 52 (.getfield 29) 3 55 := ⟨by decide +kernel, rfl⟩
theorem eX0_removeFirst_55 : am_d cX0_removeFirst 55 (.iconst 1) 1 56 := ⟨by decide +kernel, rfl⟩
theorem eX0_removeFirst_56 : am_d cX0_removeFirst 56 (.isub) 1 57 := ⟨by decide +kernel, rfl⟩
theorem eX0_removeFirst_57 : am_d cX0_removeFirst 57 (.putfield 29) 3 60 := ⟨by decide +kernel, rfl⟩
theorem eX0_removeFirst_60 : am_d cX0_removeFirst 60 (.iload_n 1) 1 61 := ⟨by decide +kernel, rfl⟩
theorem eX0_removeFirst_61 : am_d cX0_removeFirst 61 (.ireturn) 1 62 := ⟨by decide +kernel, rfl⟩
theorem eX1_init_0 : am_d cX1_init 0 (.aload_n 0) 1 1 := ⟨by decide +kernel, rfl⟩
theorem eX1_init_1 : am_d cX1_init 1 (.invokespecial 3) 3 4 := ⟨by decide +kernel, rfl⟩
theorem eX1_init_4 : am_d cX1_init 4 (.aload_n 0) 1 5 := ⟨by decide +kernel, rfl⟩
theorem eX1_init_5 : am_d cX1_init 5 (.sipush 200) 3 8 := ⟨by decide +kernel, rfl⟩
theorem eX1_init_8 : am_d cX1_init 8 (.newarray .int) 2 10 := ⟨by decide +kernel, rfl⟩
theorem eX1_init_10 : am_d cX1_init 10 (.putfield 9) 3 13 := ⟨by decide +kernel, rfl⟩
theorem eX1_init_13 : am_d cX1_init 13 (.aload_n 0) 1 14 := ⟨by decide +kernel, rfl⟩
theorem eX1_init_14 : am_d cX1_init 14 (.sipush 200) 3 17 := ⟨by decide +kernel, rfl⟩
theorem eX1_init_17 : am_d cX1_init 17 (.newarray .int) 2 19 := ⟨by decide +kernel, rfl⟩
theorem eX1_init_19 : am_d cX1_init 19 (.putfield 15) 3 22 := ⟨by decide +kernel, rfl⟩
theorem eX1_init_22 : am_d cX1_init 22 (.return_) 1 23 := ⟨by decide +kernel, rfl⟩
theorem eX1_indexOf_0 : am_d cX1_indexOf 0 (.iconst 0) 1 1 := ⟨by decide +kernel, rfl⟩
theorem eX1_indexOf_1 : am_d cX1_indexOf 1 (.istore_n 2) 1 2 := ⟨by decide +kernel, rfl⟩
theorem eX1_indexOf_2 : am_d cX1_indexOf 2 (.iload_n 2) 1 3 := ⟨by decide +kernel, rfl⟩
theorem eX1_indexOf_3 : am_d cX1_indexOf 3 (.aload_n 0) 1 4 := ⟨by decide +kernel, rfl⟩
theorem eX1_indexOf_4 : am_d cX1_indexOf 4 (.getfield 18) 3 7 := ⟨by decide +kernel, rfl⟩
theorem eX1_indexOf_7 : am_b cX1_indexOf 7 (.if_icmp .ge 21) (21) 10 28 := ⟨by decide +kernel, rfl, by decide⟩
theorem eX1_indexOf_10 : am_d cX1_indexOf 10 (.aload_n 0) 1 11 := ⟨by decide +kernel, rfl⟩
theorem eX1_indexOf_11 : am_d cX1_indexOf 11 (.getfield 9) 3 14 := ⟨by decide +kernel, rfl⟩
theorem eX1_indexOf_14 : am_d cX1_indexOf 14 (.iload_n 2) 1 15 := ⟨by decide +kernel, rfl⟩
theorem eX1_indexOf_15 : am_d cX1_indexOf 15 (.iaload) 1 16 := ⟨by decide +kernel, rfl⟩
theorem eX1_indexOf_16 : am_d cX1_indexOf 16 (.iload_n 1) 1 17 := ⟨by decide +kernel, rfl⟩
theorem eX1_indexOf_17 : am_b cX1_indexOf 17 (.if_icmp .ne 5) (5) 20 22 := ⟨by decide +kernel, rfl, by decide⟩
theorem eX1_indexOf_20 : am_d cX1_indexOf 20 (.iload_n 2) 1 21 := ⟨by decide +kernel, rfl⟩
theorem eX1_indexOf_21 : am_d cX1_indexOf 21 (.ireturn) 1 22 := ⟨by decide +kernel, rfl⟩
theorem eX1_indexOf_22 : am_d cX1_indexOf 22 (.iinc 2 1) 3 25 := ⟨by decide +kernel, rfl⟩
theorem eX1_indexOf_25 : am_b cX1_indexOf 25 (.goto (-23)) (-23) 28 2 := ⟨by decide +kernel, rfl, by decide⟩
theorem eX1_indexOf_28 : am_d cX1_indexOf 28 (.iconst (-1)) 1 29 := ⟨by decide +kernel, rfl⟩
theorem eX1_indexOf_29 : am_d cX1_indexOf 29 (.ireturn) 1 30 := ⟨by decide +kernel, rfl⟩
theorem eX1_phraseAt_0 : am_d cX1_phraseAt 0 (.aload_n 0) 1 1 := ⟨by decide +kernel, rfl⟩
theorem eX1_phraseAt_1 : am_d cX1_phraseAt 1 (.iload_n 1) 1 2 := ⟨by decide +kernel, rfl⟩
theorem eX1_phraseAt_2 : am_d cX1_phraseAt 2 (.invokevirtual 22) 3 5 := ⟨by decide +kernel, rfl⟩
theorem eX1_phraseAt_5 : am_d cX1_phraseAt 5 (.istore_n 2) 1 6 := ⟨by decide +kernel, rfl⟩
theorem eX1_phraseAt_6 : am_d cX1_phraseAt 6 (.iload_n 2) 1 7 := ⟨by decide +kernel, rfl⟩
theorem eX1_phraseAt_7 : am_d cX1_phraseAt 7 (.iconst (-1)) 1 8 := ⟨by decide +kernel, rfl⟩
theorem eX1_phraseAt_8 : am_b cX1_phraseAt 8 (.if_icmp .ne 7) (7) 11 15 := ⟨by decide +kernel, rfl, by decide⟩
theorem eX1_phraseAt_11 : am_d cX1_phraseAt 11 (.iconst (-1)) 1 12 := ⟨by decide +kernel, rfl⟩
theorem eX1_phraseAt_12 : am_b cX1_phraseAt 12 (.goto 9) (9) 15 21 := ⟨by decide +kernel, rfl, by decide⟩
theorem eX1_phraseAt_15 : am_d cX1_phraseAt 15 (.aload_n 0) 1 16 := ⟨by decide +kernel, rfl⟩
theorem eX1_phraseAt_16 : am_d cX1_phraseAt 16 (.getfield 15) 3 19 := ⟨by decide +kernel, rfl⟩
theorem eX1_phraseAt_19 : am_d cX1_phraseAt 19 (.iload_n 2) 1 20 := ⟨by decide +kernel, rfl⟩
theorem eX1_phraseAt_20 : am_d cX1_phraseAt 20 (.iaload) 1 21 := ⟨by decide +kernel, rfl⟩
theorem eX1_phraseAt_21 : am_d cX1_phraseAt 21 (.ireturn) 1 22 := ⟨by decide +kernel, rfl⟩
theorem eX1_lowestSpotOf_0 : am_d cX1_lowestSpotOf 0 (.iconst (-1)) 1 1 := ⟨by decide +kernel, rfl⟩
theorem eX1_lowestSpotOf_1 : am_d cX1_lowestSpotOf 1 (.istore_n 2) 1 2 := ⟨by decide +kernel, rfl⟩
theorem eX1_lowestSpotOf_2 : am_d cX1_lowestSpotOf 2 (.iconst 0) 1 3 := ⟨by decide +kernel, rfl⟩
theorem eX1_lowestSpotOf_3 : am_d cX1_lowestSpotOf 3 (.istore_n 3) 1 4 := ⟨by decide +kernel, rfl⟩
theorem eX1_lowestSpotOf_4 : am_d cX1_lowestSpotOf 4 (.iload_n 3) 1 5 := ⟨by decide +kernel, rfl⟩
theorem eX1_lowestSpotOf_5 : am_d cX1_lowestSpotOf 5 (.aload_n 0) 1 6 := ⟨by decide +kernel, rfl⟩
theorem eX1_lowestSpotOf_6 : am_d cX1_lowestSpotOf 6 (.getfield 18) 3 9 := ⟨by decide +kernel, rfl⟩
theorem eX1_lowestSpotOf_9 : am_b cX1_lowestSpotOf 9 (.if_icmp .ge 41) (41) 12 50 := ⟨by decide +kernel, rfl, by decide⟩
theorem eX1_lowestSpotOf_12 : am_d cX1_lowestSpotOf 12 (.aload_n 0) 1 13 := ⟨by decide +kernel, rfl⟩
theorem eX1_lowestSpotOf_13 : am_d cX1_lowestSpotOf 13 (.getfield 15) 3 16 := ⟨by decide +kernel, rfl⟩
theorem eX1_lowestSpotOf_16 : am_d cX1_lowestSpotOf 16 (.iload_n 3) 1 17 := ⟨by decide +kernel, rfl⟩
theorem eX1_lowestSpotOf_17 : am_d cX1_lowestSpotOf 17 (.iaload) 1 18 := ⟨by decide +kernel, rfl⟩
theorem eX1_lowestSpotOf_18 : am_d cX1_lowestSpotOf 18 (.iload_n 1) 1 19 := ⟨by decide +kernel, rfl⟩
theorem eX1_lowestSpotOf_19 : am_b cX1_lowestSpotOf 19 (.if_icmp .ne 25) (25) 22 44 := ⟨by decide +kernel, rfl, by decide⟩
theorem eX1_lowestSpotOf_22 : am_d cX1_lowestSpotOf 22 (.iload_n 2) 1 23 := ⟨by decide +kernel, rfl⟩
theorem eX1_lowestSpotOf_23 : am_d cX1_lowestSpotOf 23 (.iconst (-1)) 1 24 := ⟨by decide +kernel, rfl⟩
theorem eX1_lowestSpotOf_24 : am_b cX1_lowestSpotOf 24 (.if_icmp .eq 13) (13) 27 37 := ⟨by decide +kernel, rfl, by decide⟩
theorem eX1_lowestSpotOf_27 : am_d cX1_lowestSpotOf 27 (.aload_n 0) 1 28 := ⟨by decide +kernel, rfl⟩
theorem eX1_lowestSpotOf_28 : am_d cX1_lowestSpotOf 28 (.getfield 9) 3 31 := ⟨by decide +kernel, rfl⟩
theorem eX1_lowestSpotOf_31 : am_d cX1_lowestSpotOf 31 (.iload_n 3) 1 32 := ⟨by decide +kernel, rfl⟩
theorem eX1_lowestSpotOf_32 : am_d cX1_lowestSpotOf 32 (.iaload) 1 33 := ⟨by decide +kernel, rfl⟩
theorem eX1_lowestSpotOf_33 : am_d cX1_lowestSpotOf 33 (.iload_n 2) 1 34 := ⟨by decide +kernel, rfl⟩
theorem eX1_lowestSpotOf_34 : am_b cX1_lowestSpotOf 34 (.if_icmp .ge 10) (10) 37 44 := ⟨by decide +kernel, rfl, by decide⟩
theorem eX1_lowestSpotOf_37 : am_d cX1_lowestSpotOf 37 (.aload_n 0) 1 38 := ⟨by decide +kernel, rfl⟩
theorem eX1_lowestSpotOf_38 : am_d cX1_lowestSpotOf 38 (.getfield 9) 3 41 := ⟨by decide +kernel, rfl⟩
theorem eX1_lowestSpotOf_41 : am_d cX1_lowestSpotOf 41 (.iload_n 3) 1 42 := ⟨by decide +kernel, rfl⟩
theorem eX1_lowestSpotOf_42 : am_d cX1_lowestSpotOf 42 (.iaload) 1 43 := ⟨by decide +kernel, rfl⟩
theorem eX1_lowestSpotOf_43 : am_d cX1_lowestSpotOf 43 (.istore_n 2) 1 44 := ⟨by decide +kernel, rfl⟩
theorem eX1_lowestSpotOf_44 : am_d cX1_lowestSpotOf 44 (.iinc 3 1) 3 47 := ⟨by decide +kernel, rfl⟩
theorem eX1_lowestSpotOf_47 : am_b cX1_lowestSpotOf 47 (.goto (-43)) (-43) 50 4 := ⟨by decide +kernel, rfl, by decide⟩
theorem eX1_lowestSpotOf_50 : am_d cX1_lowestSpotOf 50 (.iload_n 2) 1 51 := ⟨by decide +kernel, rfl⟩
theorem eX1_lowestSpotOf_51 : am_d cX1_lowestSpotOf 51 (.ireturn) 1 52 := ⟨by decide +kernel, rfl⟩
theorem eX1_put_0 : am_d cX1_put 0 (.aload_n 0) 1 1 := ⟨by decide +kernel, rfl⟩
theorem eX1_put_1 : am_d cX1_put 1 (.iload_n 1) 1 2 := ⟨by decide +kernel, rfl⟩
theorem eX1_put_2 : am_d cX1_put 2 (.invokevirtual 22) 3 5 := ⟨by decide +kernel, rfl⟩
theorem eX1_put_5 : am_d cX1_put 5 (.istore_n 3) 1 6 := ⟨by decide +kernel, rfl⟩
theorem eX1_put_6 : am_d cX1_put 6 (.iload_n 2) 1 7 := ⟨by decide +kernel, rfl⟩
theorem eX1_put_7 : am_d cX1_put 7 (.iconst (-1)) 1 8 := ⟨by decide +kernel, rfl⟩
theorem eX1_put_8 : am_b cX1_put 8 (.if_icmp .ne 10) (10) 11 18 := ⟨by decide +kernel, rfl, by decide⟩
theorem eX1_put_11 : am_d cX1_put 11 (.aload_n 0) 1 12 := ⟨by decide +kernel, rfl⟩
theorem eX1_put_12 : am_d cX1_put 12 (.iload_n 3) 1 13 := ⟨by decide +kernel, rfl⟩
theorem eX1_put_13 : am_d cX1_put 13 (.invokevirtual 26) 3 16 := ⟨by decide +kernel, rfl⟩
theorem eX1_put_16 : am_d cX1_put 16 (.iconst 1) 1 17 := ⟨by decide +kernel, rfl⟩
theorem eX1_put_17 : am_d cX1_put 17 (.ireturn) 1 18 := ⟨by decide +kernel, rfl⟩
theorem eX1_put_18 : am_d cX1_put 18 (.iload_n 3) 1 19 := ⟨by decide +kernel, rfl⟩
theorem eX1_put_19 : am_d cX1_put 19 (.iconst (-1)) 1 20 := ⟨by decide +kernel, rfl⟩
theorem eX1_put_20 : am_b cX1_put 20 (.if_icmp .ne 10) (10) 23 30 := ⟨by decide +kernel, rfl, by decide⟩
theorem eX1_put_23 : am_d cX1_put 23 (.aload_n 0) 1 24 := ⟨by decide +kernel, rfl⟩
theorem eX1_put_24 : am_d cX1_put 24 (.iload_n 1) 1 25 := ⟨by decide +kernel, rfl⟩
theorem eX1_put_25 : am_d cX1_put 25 (.iload_n 2) 1 26 := ⟨by decide +kernel, rfl⟩
theorem eX1_put_26 : am_d cX1_put 26 (.invokevirtual 30) 3 29 := ⟨by decide +kernel, rfl⟩
theorem eX1_put_29 : am_d cX1_put 29 (.ireturn) 1 30 := ⟨by decide +kernel, rfl⟩
theorem eX1_put_30 : am_d cX1_put 30 (.aload_n 0) 1 31 := ⟨by decide +kernel, rfl⟩
theorem eX1_put_31 : am_d cX1_put 31 (.getfield 15) 3 34 := ⟨by decide +kernel, rfl⟩
theorem eX1_put_34 : am_d cX1_put 34 (.iload_n 3) 1 35 := ⟨by decide +kernel, rfl⟩
theorem eX1_put_35 : am_d cX1_put 35 (.iload_n 2) 1 36 := ⟨by decide +kernel, rfl⟩
theorem eX1_put_36 : am_d cX1_put 36 (.iastore) 1 37 := ⟨by decide +kernel, rfl⟩
theorem eX1_put_37 : am_d cX1_put 37 (.iconst 1) 1 38 := ⟨by decide +kernel, rfl⟩
theorem eX1_put_38 : am_d cX1_put 38 (.ireturn) 1 39 := ⟨by decide +kernel, rfl⟩
theorem eX1_add_0 : am_d cX1_add 0 (.aload_n 0) 1 1 := ⟨by decide +kernel, rfl⟩
theorem eX1_add_1 : am_d cX1_add 1 (.getfield 18) 3 4 := ⟨by decide +kernel, rfl⟩
theorem eX1_add_4 : am_d cX1_add 4 (.sipush 200) 3 7 := ⟨by decide +kernel, rfl⟩
theorem eX1_add_7 : am_b cX1_add 7 (.if_icmp .lt 5) (5) 10 12 := ⟨by decide +kernel, rfl, by decide⟩
theorem eX1_add_10 : am_d cX1_add 10 (.iconst 0) 1 11 := ⟨by decide +kernel, rfl⟩
theorem eX1_add_11 : am_d cX1_add 11 (.ireturn) 1 12 := ⟨by decide +kernel, rfl⟩
theorem eX1_add_12 : am_d cX1_add 12 (.aload_n 0) 1 13 := ⟨by decide +kernel, rfl⟩
theorem eX1_add_13 : am_d cX1_add 13 (.getfield 9) 3 16 := ⟨by decide +kernel, rfl⟩
theorem eX1_add_16 : am_d cX1_add 16 (.aload_n 0) 1 17 := ⟨by decide +kernel, rfl⟩
theorem eX1_add_17 : am_d cX1_add 17 (.getfield 18) 3 20 := ⟨by decide +kernel, rfl⟩
theorem eX1_add_20 : am_d cX1_add 20 (.iload_n 1) 1 21 := ⟨by decide +kernel, rfl⟩
theorem eX1_add_21 : am_d cX1_add 21 (.iastore) 1 22 := ⟨by decide +kernel, rfl⟩
theorem eX1_add_22 : am_d cX1_add 22 (.aload_n 0) 1 23 := ⟨by decide +kernel, rfl⟩
theorem eX1_add_23 : am_d cX1_add 23 (.getfield 15) 3 26 := ⟨by decide +kernel, rfl⟩
theorem eX1_add_26 : am_d cX1_add 26 (.aload_n 0) 1 27 := ⟨by decide +kernel, rfl⟩
theorem eX1_add_27 : am_d cX1_add 27 (.getfield 18) 3 30 := ⟨by decide +kernel, rfl⟩
theorem eX1_add_30 : am_d cX1_add 30 (.iload_n 2) 1 31 := ⟨by decide +kernel, rfl⟩
theorem eX1_add_31 : am_d cX1_add 31 (.iastore) 1 32 := ⟨by decide +kernel, rfl⟩
theorem eX1_add_32 : am_d cX1_add 32 (.aload_n 0) 1 33 := ⟨by decide +kernel, rfl⟩
theorem eX1_add_33 : am_d cX1_add 33 (.dup) 1 34 := ⟨by decide +kernel, rfl⟩
theorem eX1_add_34 : am_d cX1_add 34 (.getfield 18) 3 37 := ⟨by decide +kernel, rfl⟩
theorem eX1_add_37 : am_d cX1_add 37 (.iconst 1) 1 38 := ⟨by decide +kernel, rfl⟩
theorem eX1_add_38 : am_d cX1_add 38 (.iadd) 1 39 := ⟨by decide +kernel, rfl⟩
theorem eX1_add_39 : am_d cX1_add 39 (.putfield 18) 3 42 := ⟨by decide +kernel, rfl⟩
theorem eX1_add_42 : am_d cX1_add 42 (.iconst 1) 1 43 := ⟨by decide +kernel, rfl⟩
theorem eX1_add_43 : am_d cX1_add 43 (.ireturn) 1 44 := ⟨by decide +kernel, rfl⟩
theorem eX1_remove_0 : am_d cX1_remove 0 (.iload_n 1) 1 1 := ⟨by decide +kernel, rfl⟩
theorem eX1_remove_1 : am_b cX1_remove 1 (.ifCond .lt 11) (11) 4 12 := ⟨by decide +kernel, rfl, by decide⟩
theorem eX1_remove_4 : am_d cX1_remove 4 (.iload_n 1) 1 5 := ⟨by decide +kernel, rfl⟩
theorem eX1_remove_5 : am_d cX1_remove 5 (.aload_n 0) 1 6 := ⟨by decide +kernel, rfl⟩
theorem eX1_remove_6 : am_d cX1_remove 6 (.getfield 18) 3 9 := ⟨by decide +kernel, rfl⟩
theorem eX1_remove_9 : am_b cX1_remove 9 (.if_icmp .lt 4) (4) 12 13 := ⟨by decide +kernel, rfl, by decide⟩
theorem eX1_remove_12 : am_d cX1_remove 12 (.return_) 1 13 := ⟨by decide +kernel, rfl⟩
theorem eX1_remove_13 : am_d cX1_remove 13 (.aload_n 0) 1 14 := ⟨by decide +kernel, rfl⟩
theorem eX1_remove_14 : am_d cX1_remove 14 (.dup) 1 15 := ⟨by decide +kernel, rfl⟩
theorem eX1_remove_15 : am_d cX1_remove 15 (.getfield 18) 3 18 := ⟨by decide +kernel, rfl⟩
theorem eX1_remove_18 : am_d cX1_remove 18 (.iconst 1) 1 19 := ⟨by decide +kernel, rfl⟩
theorem eX1_remove_19 : am_d cX1_remove 19 (.isub) 1 20 := ⟨by decide +kernel, rfl⟩
theorem eX1_remove_20 : am_d cX1_remove 20 (.putfield 18) 3 23 := ⟨by decide +kernel, rfl⟩
theorem eX1_remove_23 : am_d cX1_remove 23 (.aload_n 0) 1 24 := ⟨by decide +kernel, rfl⟩
theorem eX1_remove_24 : am_d cX1_remove 24 (.getfield 9) 3 27 := ⟨by decide +kernel, rfl⟩
theorem eX1_remove_27 : am_d cX1_remove 27 (.iload_n 1) 1 28 := ⟨by decide +kernel, rfl⟩
theorem eX1_remove_28 : am_d cX1_remove 28 (.aload_n 0) 1 29 := ⟨by decide +kernel, rfl⟩
theorem eX1_remove_29 : am_d cX1_remove 29 (.getfield 9) 3 32 := ⟨by decide +kernel, rfl⟩
theorem eX1_remove_32 : am_d cX1_remove 32 (.aload_n 0) 1 33 := ⟨by decide +kernel, rfl⟩
theorem eX1_remove_33 : am_d cX1_remove 33 (.getfield 18) 3 36 := ⟨by decide +kernel, rfl⟩
theorem eX1_remove_36 : am_d cX1_remove 36 (.iaload) 1 37 := ⟨by decide +kernel, rfl⟩
theorem eX1_remove_37 : am_d cX1_remove 37 (.iastore) 1 38 := ⟨by decide +kernel, rfl⟩
theorem eX1_remove_38 : am_d cX1_remove 38 (.aload_n 0) 1 39 := ⟨by decide +kernel, rfl⟩
theorem eX1_remove_39 : am_d cX1_remove 39 (.getfield 15) 3 42 := ⟨by decide +kernel, rfl⟩
theorem eX1_remove_42 : am_d cX1_remove 42 (.iload_n 1) 1 43 := ⟨by decide +kernel, rfl⟩
theorem eX1_remove_43 : am_d cX1_remove 43 (.aload_n 0) 1 44 := ⟨by decide +kernel, rfl⟩
theorem eX1_remove_44 : am_d cX1_remove 44 (.getfield 15) 3 47 := ⟨by decide +kernel, rfl⟩
theorem eX1_remove_47 : am_d cX1_remove 47 (.aload_n 0) 1 48 := ⟨by decide +kernel, rfl⟩
theorem eX1_remove_48 : am_d cX1_remove 48 (.getfield 18) 3 51 := ⟨by decide +kernel, rfl⟩
theorem eX1_remove_51 : am_d cX1_remove 51 (.iaload) 1 52 := ⟨by decide +kernel, rfl⟩
theorem eX1_remove_52 : am_d cX1_remove 52 (.iastore) 1 53 := ⟨by decide +kernel, rfl⟩
theorem eX1_remove_53 : am_d cX1_remove 53 (.return_) 1 54 := ⟨by decide +kernel, rfl⟩
theorem eX2_init_0 : am_d cX2_init 0 (.aload_n 0) 1 1 := ⟨by decide +kernel, rfl⟩
theorem eX2_init_1 : am_d cX2_init 1 (.invokespecial 3) 3 4 := ⟨by decide +kernel, rfl⟩
theorem eX2_init_4 : am_d cX2_init 4 (.aload_n 0) 1 5 := ⟨by decide +kernel, rfl⟩
theorem eX2_init_5 : am_d cX2_init 5 (.iload_n 1) 1 6 := ⟨by decide +kernel, rfl⟩
theorem eX2_init_6 : am_d cX2_init 6 (.putfield 9) 3 9 := ⟨by decide +kernel, rfl⟩
theorem eX2_init_9 : am_d cX2_init 9 (.aload_n 0) 1 10 := ⟨by decide +kernel, rfl⟩
theorem eX2_init_10 : am_d cX2_init 10 (.iload_n 2) 1 11 := ⟨by decide +kernel, rfl⟩
theorem eX2_init_11 : am_d cX2_init 11 (.putfield 15) 3 14 := ⟨by decide +kernel, rfl⟩
theorem eX2_init_14 : am_d cX2_init 14 (.aload_n 0) 1 15 := ⟨by decide +kernel, rfl⟩
theorem eX2_init_15 : am_d cX2_init 15 (.aload_n 3) 1 16 := ⟨by decide +kernel, rfl⟩
theorem eX2_init_16 : am_d cX2_init 16 (.putfield 19) 3 19 := ⟨by decide +kernel, rfl⟩
theorem eX2_init_19 : am_d cX2_init 19 (.aload_n 0) 1 20 := ⟨by decide +kernel, rfl⟩
theorem eX2_init_20 : am_d cX2_init 20 (.bipush 60) 2 22 := ⟨by decide +kernel, rfl⟩
theorem eX2_init_22 : am_d cX2_init 22 (.newarray .int) 2 24 := ⟨by decide +kernel, rfl⟩
theorem eX2_init_24 : am_d cX2_init 24 (.putfield 23) 3 27 := ⟨by decide +kernel, rfl⟩
theorem eX2_init_27 : am_d cX2_init 27 (.return_) 1 28 := ⟨by decide +kernel, rfl⟩
theorem eX2_add_0 : am_d cX2_add 0 (.aload_n 0) 1 1 := ⟨by decide +kernel, rfl⟩
theorem eX2_add_1 : am_d cX2_add 1 (.getfield 27) 3 4 := ⟨by decide +kernel, rfl⟩
theorem eX2_add_4 : am_d cX2_add 4 (.bipush 60) 2 6 := ⟨by decide +kernel, rfl⟩
theorem eX2_add_6 : am_b cX2_add 6 (.if_icmp .ge 23) (23) 9 29 := ⟨by decide +kernel, rfl, by decide⟩
theorem eX2_add_9 : am_d cX2_add 9 (.aload_n 0) 1 10 := ⟨by decide +kernel, rfl⟩
theorem eX2_add_10 : am_d cX2_add 10 (.getfield 23) 3 13 := ⟨by decide +kernel, rfl⟩
theorem eX2_add_13 : am_d cX2_add 13 (.aload_n 0) 1 14 := ⟨by decide +kernel, rfl⟩
theorem eX2_add_14 : am_d cX2_add 14 (.getfield 27) 3 17 := ⟨by decide +kernel, rfl⟩
theorem eX2_add_17 : am_d cX2_add 17 (.iload_n 1) 1 18 := ⟨by decide +kernel, rfl⟩
theorem eX2_add_18 : am_d cX2_add 18 (.iastore) 1 19 := ⟨by decide +kernel, rfl⟩
theorem eX2_add_19 : am_d cX2_add 19 (.aload_n 0) 1 20 := ⟨by decide +kernel, rfl⟩
theorem eX2_add_20 : am_d cX2_add 20 (.dup) 1 21 := ⟨by decide +kernel, rfl⟩
theorem eX2_add_21 : am_d cX2_add 21 (.getfield 27) 3 24 := ⟨by decide +kernel, rfl⟩
theorem eX2_add_24 : am_d cX2_add 24 (.iconst 1) 1 25 := ⟨by decide +kernel, rfl⟩
theorem eX2_add_25 : am_d cX2_add 25 (.iadd) 1 26 := ⟨by decide +kernel, rfl⟩
theorem eX2_add_26 : am_d cX2_add 26 (.putfield 27) 3 29 := ⟨by decide +kernel, rfl⟩
theorem eX2_add_29 : am_d cX2_add 29 (.return_) 1 30 := ⟨by decide +kernel, rfl⟩
theorem eX2_spots_0 : am_d cX2_spots 0 (.aload_n 0) 1 1 := ⟨by decide +kernel, rfl⟩
theorem eX2_spots_1 : am_d cX2_spots 1 (.getfield 27) 3 4 := ⟨by decide +kernel, rfl⟩
theorem eX2_spots_4 : am_d cX2_spots 4 (.iconst 2) 1 5 := ⟨by decide +kernel, rfl⟩
theorem eX2_spots_5 : am_d cX2_spots 5 (.idiv) 1 6 := ⟨by decide +kernel, rfl⟩
theorem eX2_spots_6 : am_d cX2_spots 6 (.ireturn) 1 7 := ⟨by decide +kernel, rfl⟩
theorem eX2_tell_0 : am_d cX2_tell 0 (.iload_n 1) 1 1 := ⟨by decide +kernel, rfl⟩
theorem eX2_tell_1 : am_b cX2_tell 1 (.ifCond .ne 8) (8) 4 9 := ⟨by decide +kernel, rfl, by decide⟩
theorem eX2_tell_4 : am_d cX2_tell 4 (.aload_n 0) 1 5 := ⟨by decide +kernel, rfl⟩
theorem eX2_tell_5 : am_d cX2_tell 5 (.getfield 30) 3 8 := ⟨by decide +kernel, rfl⟩
theorem eX2_tell_8 : am_d cX2_tell 8 (.ireturn) 1 9 := ⟨by decide +kernel, rfl⟩
theorem eX2_tell_9 : am_d cX2_tell 9 (.iload_n 1) 1 10 := ⟨by decide +kernel, rfl⟩
theorem eX2_tell_10 : am_d cX2_tell 10 (.iconst 1) 1 11 := ⟨by decide +kernel, rfl⟩
theorem eX2_tell_11 : am_b cX2_tell 11 (.if_icmp .ne 8) (8) 14 19 := ⟨by decide +kernel, rfl, by decide⟩
theorem eX2_tell_14 : am_d cX2_tell 14 (.aload_n 0) 1 15 := ⟨by decide +kernel, rfl⟩
theorem eX2_tell_15 : am_d cX2_tell 15 (.getfield 9) 3 18 := ⟨by decide +kernel, rfl⟩
theorem eX2_tell_18 : am_d cX2_tell 18 (.ireturn) 1 19 := ⟨by decide +kernel, rfl⟩
theorem eX2_tell_19 : am_d cX2_tell 19 (.iload_n 1) 1 20 := ⟨by decide +kernel, rfl⟩
theorem eX2_tell_20 : am_d cX2_tell 20 (.iconst 2) 1 21 := ⟨by decide +kernel, rfl⟩
theorem eX2_tell_21 : am_b cX2_tell 21 (.if_icmp .ne 8) (8) 24 29 := ⟨by decide +kernel, rfl, by decide⟩
theorem eX2_tell_24 : am_d cX2_tell 24 (.aload_n 0) 1 25 := ⟨by decide +kernel, rfl⟩
theorem eX2_tell_25 : am_d cX2_tell 25 (.invokevirtual 33) 3 28 := ⟨by decide +kernel, rfl⟩
theorem eX2_tell_28 : am_d cX2_tell 28 (.ireturn) 1 29 := ⟨by decide +kernel, rfl⟩
theorem eX2_tell_29 : am_d cX2_tell 29 (.aload_n 0) 1 30 := ⟨by decide +kernel, rfl⟩
theorem eX2_tell_30 : am_d cX2_tell 30 (.getfield 15) 3 33 := ⟨by decide +kernel, rfl⟩
theorem eX2_tell_33 : am_b cX2_tell 33 (.ifCond .eq 7) (7) 36 40 := ⟨by decide +kernel, rfl, by decide⟩
theorem eX2_tell_36 : am_d cX2_tell 36 (.iconst 1) 1 37 := ⟨by decide +kernel, rfl⟩
theorem eX2_tell_37 : am_b cX2_tell 37 (.goto 4) (4) 40 41 := ⟨by decide +kernel, rfl, by decide⟩
theorem eX2_tell_40 : am_d cX2_tell 40 (.iconst 0) 1 41 := ⟨by decide +kernel, rfl⟩
theorem eX2_tell_41 : am_d cX2_tell 41 (.ireturn) 1 42 := ⟨by decide +kernel, rfl⟩
theorem eX3_init_0 : am_d cX3_init 0 (.aload_n 0) 1 1 := ⟨by decide +kernel, rfl⟩
theorem eX3_init_1 : am_d cX3_init 1 (.invokespecial 3) 3 4 := ⟨by decide +kernel, rfl⟩
theorem eX3_init_4 : am_d cX3_init 4 (.aload_n 0) 1 5 := ⟨by decide +kernel, rfl⟩
theorem eX3_init_5 : am_d cX3_init 5 (.sipush 300) 3 8 := ⟨by decide +kernel, rfl⟩
theorem eX3_init_8 : am_d cX3_init 8 (.newarray .int) 2 10 := ⟨by decide +kernel, rfl⟩
theorem eX3_init_10 : am_d cX3_init 10 (.putfield 9) 3 13 := ⟨by decide +kernel, rfl⟩
theorem eX3_init_13 : am_d cX3_init 13 (.aload_n 0) 1 14 := ⟨by decide +kernel, rfl⟩
theorem eX3_init_14 : am_d cX3_init 14 (.sipush 300) 3 17 := ⟨by decide +kernel, rfl⟩
theorem eX3_init_17 : am_d cX3_init 17 (.newarray .int) 2 19 := ⟨by decide +kernel, rfl⟩
theorem eX3_init_19 : am_d cX3_init 19 (.putfield 15) 3 22 := ⟨by decide +kernel, rfl⟩
theorem eX3_init_22 : am_d cX3_init 22 (.aload_n 0) 1 23 := ⟨by decide +kernel, rfl⟩
theorem eX3_init_23 : am_d cX3_init 23 (.sipush 300) 3 26 := ⟨by decide +kernel, rfl⟩
theorem eX3_init_26 : am_d cX3_init 26 (.newarray .boolean) 2 28 := ⟨by decide +kernel, rfl⟩
theorem eX3_init_28 : am_d cX3_init 28 (.putfield 18) 3 31 := ⟨by decide +kernel, rfl⟩
theorem eX3_init_31 : am_d cX3_init 31 (.return_) 1 32 := ⟨by decide +kernel, rfl⟩
theorem eX3_enter_0 : am_d cX3_enter 0 (.aload_n 0) 1 1 := ⟨by decide +kernel, rfl⟩
theorem eX3_enter_1 : am_d cX3_enter 1 (.getfield 22) 3 4 := ⟨by decide +kernel, rfl⟩
theorem eX3_enter_4 : am_d cX3_enter 4 (.sipush 300) 3 7 := ⟨by decide +kernel, rfl⟩
theorem eX3_enter_7 : am_b cX3_enter 7 (.if_icmp .lt 4) (4) 10 11 := ⟨by decide +kernel, rfl, by decide⟩
theorem eX3_enter_10 : am_d cX3_enter 10 (.return_) 1 11 := ⟨by decide +kernel, rfl⟩
theorem eX3_enter_11 : am_d cX3_enter 11 (.aload_n 0) 1 12 := ⟨by decide +kernel, rfl⟩
theorem eX3_enter_12 : am_d cX3_enter 12 (.getfield 9) 3 15 := ⟨by decide +kernel, rfl⟩
theorem eX3_enter_15 : am_d cX3_enter 15 (.aload_n 0) 1 16 := ⟨by decide +kernel, rfl⟩
theorem eX3_enter_16 : am_d cX3_enter 16 (.getfield 22) 3 19 := ⟨by decide +kernel, rfl⟩
theorem eX3_enter_19 : am_d cX3_enter 19 (.iload_n 1) 1 20 := ⟨by decide +kernel, rfl⟩
theorem eX3_enter_20 : am_d cX3_enter 20 (.iastore) 1 21 := ⟨by decide +kernel, rfl⟩
theorem eX3_enter_21 : am_d cX3_enter 21 (.aload_n 0) 1 22 := ⟨by decide +kernel, rfl⟩
theorem eX3_enter_22 : am_d cX3_enter 22 (.getfield 15) 3 25 := ⟨by decide +kernel, rfl⟩
theorem eX3_enter_25 : am_d cX3_enter 25 (.aload_n 0) 1 26 := ⟨by decide +kernel, rfl⟩
theorem eX3_enter_26 : am_d cX3_enter 26 (.getfield 22) 3 29 := ⟨by decide +kernel, rfl⟩
theorem eX3_enter_29 : am_d cX3_enter 29 (.iload_n 2) 1 30 := ⟨by decide +kernel, rfl⟩
theorem eX3_enter_30 : am_d cX3_enter 30 (.iastore) 1 31 := ⟨by decide +kernel, rfl⟩
theorem eX3_enter_31 : am_d cX3_enter 31 (.aload_n 0) 1 32 := ⟨by decide +kernel, rfl⟩
theorem eX3_enter_32 : am_d cX3_enter 32 (.getfield 18) 3 35 := ⟨by decide +kernel, rfl⟩
theorem eX3_enter_35 : am_d cX3_enter 35 (.aload_n 0) 1 36 := ⟨by decide +kernel, rfl⟩
theorem eX3_enter_36 : am_d cX3_enter 36 (.getfield 22) 3 39 := ⟨by decide +kernel, rfl⟩
theorem eX3_enter_39 : am_d cX3_enter 39 (.iload_n 3) 1 40 := ⟨by decide +kernel, rfl⟩
theorem eX3_enter_40 : am_d cX3_enter 40 (.bastore) 1 41 := ⟨by decide +kernel, rfl⟩
theorem eX3_enter_41 : am_d cX3_enter 41 (.aload_n 0) 1 42 := ⟨by decide +kernel, rfl⟩
theorem eX3_enter_42 : am_d cX3_enter 42 (.dup) 1 43 := ⟨by decide +kernel, rfl⟩
theorem eX3_enter_43 : am_d cX3_enter 43 (.getfield 22) 3 46 := ⟨by decide +kernel, rfl⟩
theorem eX3_enter_46 : am_d cX3_enter 46 (.iconst 1) 1 47 := ⟨by decide +kernel, rfl⟩
theorem eX3_enter_47 : am_d cX3_enter 47 (.iadd) 1 48 := ⟨by decide +kernel, rfl⟩
theorem eX3_enter_48 : am_d cX3_enter 48 (.putfield 22) 3 51 := ⟨by decide +kernel, rfl⟩
theorem eX3_enter_51 : am_d cX3_enter 51 (.return_) 1 52 := ⟨by decide +kernel, rfl⟩
theorem eX3_tell_0 : am_d cX3_tell 0 (.iload_n 2) 1 1 := ⟨by decide +kernel, rfl⟩
theorem eX3_tell_1 : am_b cX3_tell 1 (.ifCond .ne 10) (10) 4 11 := ⟨by decide +kernel, rfl, by decide⟩
theorem eX3_tell_4 : am_d cX3_tell 4 (.aload_n 0) 1 5 := ⟨by decide +kernel, rfl⟩
theorem eX3_tell_5 : am_d cX3_tell 5 (.getfield 9) 3 8 := ⟨by decide +kernel, rfl⟩
theorem eX3_tell_8 : am_d cX3_tell 8 (.iload_n 1) 1 9 := ⟨by decide +kernel, rfl⟩
theorem eX3_tell_9 : am_d cX3_tell 9 (.iaload) 1 10 := ⟨by decide +kernel, rfl⟩
theorem eX3_tell_10 : am_d cX3_tell 10 (.ireturn) 1 11 := ⟨by decide +kernel, rfl⟩
theorem eX3_tell_11 : am_d cX3_tell 11 (.iload_n 2) 1 12 := ⟨by decide +kernel, rfl⟩
theorem eX3_tell_12 : am_d cX3_tell 12 (.iconst 1) 1 13 := ⟨by decide +kernel, rfl⟩
theorem eX3_tell_13 : am_b cX3_tell 13 (.if_icmp .ne 10) (10) 16 23 := ⟨by decide +kernel, rfl, by decide⟩
theorem eX3_tell_16 : am_d cX3_tell 16 (.aload_n 0) 1 17 := ⟨by decide +kernel, rfl⟩
theorem eX3_tell_17 : am_d cX3_tell 17 (.getfield 15) 3 20 := ⟨by decide +kernel, rfl⟩
theorem eX3_tell_20 : am_d cX3_tell 20 (.iload_n 1) 1 21 := ⟨by decide +kernel, rfl⟩
theorem eX3_tell_21 : am_d cX3_tell 21 (.iaload) 1 22 := ⟨by decide +kernel, rfl⟩
theorem eX3_tell_22 : am_d cX3_tell 22 (.ireturn) 1 23 := ⟨by decide +kernel, rfl⟩
theorem eX3_tell_23 : am_d cX3_tell 23 (.aload_n 0) 1 24 := ⟨by decide +kernel, rfl⟩
theorem eX3_tell_24 : am_d cX3_tell 24 (.getfield 18) 3 27 := ⟨by decide +kernel, rfl⟩
theorem eX3_tell_27 : am_d cX3_tell 27 (.iload_n 1) 1 28 := ⟨by decide +kernel, rfl⟩
theorem eX3_tell_28 : am_d cX3_tell 28 (.baload) 1 29 := ⟨by decide +kernel, rfl⟩
theorem eX3_tell_29 : am_b cX3_tell 29 (.ifCond .eq 7) (7) 32 36 := ⟨by decide +kernel, rfl, by decide⟩
theorem eX3_tell_32 : am_d cX3_tell 32 (.iconst 1) 1 33 := ⟨by decide +kernel, rfl⟩
theorem eX3_tell_33 : am_b cX3_tell 33 (.goto 4) (4) 36 37 := ⟨by decide +kernel, rfl, by decide⟩
theorem eX3_tell_36 : am_d cX3_tell 36 (.iconst 0) 1 37 := ⟨by decide +kernel, rfl⟩
theorem eX3_tell_37 : am_d cX3_tell 37 (.ireturn) 1 38 := ⟨by decide +kernel, rfl⟩
theorem eX3_nextTaken_0 : am_d cX3_nextTaken 0 (.iload_n 1) 1 1 := ⟨by decide +kernel, rfl⟩
theorem eX3_nextTaken_1 : am_d cX3_nextTaken 1 (.istore_n 2) 1 2 := ⟨by decide +kernel, rfl⟩
theorem eX3_nextTaken_2 : am_d cX3_nextTaken 2 (.iload_n 2) 1 3 := ⟨by decide +kernel, rfl⟩
theorem eX3_nextTaken_3 : am_d cX3_nextTaken 3 (.aload_n 0) 1 4 := ⟨by decide +kernel, rfl⟩
theorem eX3_nextTaken_4 : am_d cX3_nextTaken 4 (.getfield 22) 3 7 := ⟨by decide +kernel, rfl⟩
theorem eX3_nextTaken_7 : am_b cX3_nextTaken 7 (.if_icmp .ge 20) (20) 10 27 := ⟨by decide +kernel, rfl, by decide⟩
theorem eX3_nextTaken_10 : am_d cX3_nextTaken 10 (.aload_n 0) 1 11 := ⟨by decide +kernel, rfl⟩
theorem eX3_nextTaken_11 : am_d cX3_nextTaken 11 (.getfield 18) 3 14 := ⟨by decide +kernel, rfl⟩
theorem eX3_nextTaken_14 : am_d cX3_nextTaken 14 (.iload_n 2) 1 15 := ⟨by decide +kernel, rfl⟩
theorem eX3_nextTaken_15 : am_d cX3_nextTaken 15 (.baload) 1 16 := ⟨by decide +kernel, rfl⟩
theorem eX3_nextTaken_16 : am_b cX3_nextTaken 16 (.ifCond .ne 5) (5) 19 21 := ⟨by decide +kernel, rfl, by decide⟩
theorem eX3_nextTaken_19 : am_d cX3_nextTaken 19 (.iload_n 2) 1 20 := ⟨by decide +kernel, rfl⟩
theorem eX3_nextTaken_20 : am_d cX3_nextTaken 20 (.ireturn) 1 21 := ⟨by decide +kernel, rfl⟩
theorem eX3_nextTaken_21 : am_d cX3_nextTaken 21 (.iinc 2 1) 3 24 := ⟨by decide +kernel, rfl⟩
theorem eX3_nextTaken_24 : am_b cX3_nextTaken 24 (.goto (-22)) (-22) 27 2 := ⟨by decide +kernel, rfl, by decide⟩
theorem eX3_nextTaken_27 : am_d cX3_nextTaken 27 (.aload_n 0) 1 28 := ⟨by decide +kernel, rfl⟩
theorem eX3_nextTaken_28 : am_d cX3_nextTaken 28 (.getfield 22) 3 31 := ⟨by decide +kernel, rfl⟩
theorem eX3_nextTaken_31 : am_d cX3_nextTaken 31 (.ireturn) 1 32 := ⟨by decide +kernel, rfl⟩
theorem eX4_init_0 : am_d cX4_init 0 (.aload_n 0) 1 1 := ⟨by decide +kernel, rfl⟩
theorem eX4_init_1 : am_d cX4_init 1 (.invokespecial 3) 3 4 := ⟨by decide +kernel, rfl⟩
theorem eX4_init_4 : am_d cX4_init 4 (.aload_n 0) 1 5 := ⟨by decide +kernel, rfl⟩
theorem eX4_init_5 : am_d cX4_init 5 (.iload_n 1) 1 6 := ⟨by decide +kernel, rfl⟩
theorem eX4_init_6 : am_d cX4_init 6 (.putfield 9) 3 9 := ⟨by decide +kernel, rfl⟩
theorem eX4_init_9 : am_d cX4_init 9 (.aload_n 0) 1 10 := ⟨by decide +kernel, rfl⟩
theorem eX4_init_10 : am_d cX4_init 10 (.sipush 200) 3 13 := ⟨by decide +kernel, rfl⟩
theorem eX4_init_13 : am_d cX4_init 13 (.newarray .int) 2 15 := ⟨by decide +kernel, rfl⟩
theorem eX4_init_15 : am_d cX4_init 15 (.putfield 15) 3 18 := ⟨by decide +kernel, rfl⟩
theorem eX4_init_18 : am_d cX4_init 18 (.return_) 1 19 := ⟨by decide +kernel, rfl⟩
theorem eX4_note_0 : am_d cX4_note 0 (.aload_n 0) 1 1 := ⟨by decide +kernel, rfl⟩
theorem eX4_note_1 : am_d cX4_note 1 (.getfield 19) 3 4 := ⟨by decide +kernel, rfl⟩
theorem eX4_note_4 : am_d cX4_note 4 (.sipush 200) 3 7 := ⟨by decide +kernel, rfl⟩
theorem eX4_note_7 : am_b cX4_note 7 (.if_icmp .ge 23) (23) 10 30 := ⟨by decide +kernel, rfl, by decide⟩
theorem eX4_note_10 : am_d cX4_note 10 (.aload_n 0) 1 11 := ⟨by decide +kernel, rfl⟩
theorem eX4_note_11 : am_d cX4_note 11 (.getfield 15) 3 14 := ⟨by decide +kernel, rfl⟩
theorem eX4_note_14 : am_d cX4_note 14 (.aload_n 0) 1 15 := ⟨by decide +kernel, rfl⟩
theorem eX4_note_15 : am_d cX4_note 15 (.getfield 19) 3 18 := ⟨by decide +kernel, rfl⟩
theorem eX4_note_18 : am_d cX4_note 18 (.iload_n 1) 1 19 := ⟨by decide +kernel, rfl⟩
theorem eX4_note_19 : am_d cX4_note 19 (.iastore) 1 20 := ⟨by decide +kernel, rfl⟩
theorem eX4_note_20 : am_d cX4_note 20 (.aload_n 0) 1 21 := ⟨by decide +kernel, rfl⟩
theorem eX4_note_21 : am_d cX4_note 21 (.dup) 1 22 := ⟨by decide +kernel, rfl⟩
theorem eX4_note_22 : am_d cX4_note 22 (.getfield 19) 3 25 := ⟨by decide +kernel, rfl⟩
theorem eX4_note_25 : am_d cX4_note 25 (.iconst 1) 1 26 := ⟨by decide +kernel, rfl⟩
theorem eX4_note_26 : am_d cX4_note 26 (.iadd) 1 27 := ⟨by decide +kernel, rfl⟩
theorem eX4_note_27 : am_d cX4_note 27 (.putfield 19) 3 30 := ⟨by decide +kernel, rfl⟩
theorem eX4_note_30 : am_d cX4_note 30 (.return_) 1 31 := ⟨by decide +kernel, rfl⟩
theorem eX5_init_0 : am_d cX5_init 0 (.aload_n 0) 1 1 := ⟨by decide +kernel, rfl⟩
theorem eX5_init_1 : am_d cX5_init 1 (.invokespecial 3) 3 4 := ⟨by decide +kernel, rfl⟩
theorem eX5_init_4 : am_d cX5_init 4 (.aload_n 0) 1 5 := ⟨by decide +kernel, rfl⟩
theorem eX5_init_5 : am_d cX5_init 5 (.iload_n 1) 1 6 := ⟨by decide +kernel, rfl⟩
theorem eX5_init_6 : am_d cX5_init 6 (.putfield 9) 3 9 := ⟨by decide +kernel, rfl⟩
theorem eX5_init_9 : am_d cX5_init 9 (.aload_n 0) 1 10 := ⟨by decide +kernel, rfl⟩
theorem eX5_init_10 : am_d cX5_init 10 (.iconst 3) 1 11 := ⟨by decide +kernel, rfl⟩
theorem eX5_init_11 : am_d cX5_init 11 (.newarray .int) 2 13 := ⟨by decide +kernel, rfl⟩
theorem eX5_init_13 : am_d cX5_init 13 (.putfield 15) 3 16 := ⟨by decide +kernel, rfl⟩
theorem eX5_init_16 : am_d cX5_init 16 (.aload_n 0) 1 17 := ⟨by decide +kernel, rfl⟩
theorem eX5_init_17 : am_d cX5_init 17 (.iconst 3) 1 18 := ⟨by decide +kernel, rfl⟩
theorem eX5_init_18 : am_d cX5_init 18 (.newarray .int) 2 20 := ⟨by decide +kernel, rfl⟩
theorem eX5_init_20 : am_d cX5_init 20 (.putfield 19) 3 23 := ⟨by decide +kernel, rfl⟩
theorem eX5_init_23 : am_d cX5_init 23 (.return_) 1 24 := ⟨by decide +kernel, rfl⟩
theorem eX5_layHill_0 : am_d cX5_layHill 0 (.aload_n 0) 1 1 := ⟨by decide +kernel, rfl⟩
theorem eX5_layHill_1 : am_d cX5_layHill 1 (.getfield 22) 3 4 := ⟨by decide +kernel, rfl⟩
theorem eX5_layHill_4 : am_d cX5_layHill 4 (.iconst 3) 1 5 := ⟨by decide +kernel, rfl⟩
theorem eX5_layHill_5 : am_b cX5_layHill 5 (.if_icmp .lt 5) (5) 8 10 := ⟨by decide +kernel, rfl, by decide⟩
theorem eX5_layHill_8 : am_d cX5_layHill 8 (.iconst 0) 1 9 := ⟨by decide +kernel, rfl⟩
theorem eX5_layHill_9 : am_d cX5_layHill 9 (.ireturn) 1 10 := ⟨by decide +kernel, rfl⟩
theorem eX5_layHill_10 : am_d cX5_layHill 10 (.aload_n 0) 1 11 := ⟨by decide +kernel, rfl⟩
theorem eX5_layHill_11 : am_d cX5_layHill 11 (.getfield 15) 3 14 := ⟨by decide +kernel, rfl⟩
theorem eX5_layHill_14 : am_d cX5_layHill 14 (.aload_n 0) 1 15 := ⟨by decide +kernel, rfl⟩
theorem eX5_layHill_15 : am_d cX5_layHill 15 (.getfield 22) 3 18 := ⟨by decide +kernel, rfl⟩
theorem eX5_layHill_18 : am_d cX5_layHill 18 (.iload_n 1) 1 19 := ⟨by decide +kernel, rfl⟩
theorem eX5_layHill_19 : am_d cX5_layHill 19 (.iastore) 1 20 := ⟨by decide +kernel, rfl⟩
theorem eX5_layHill_20 : am_d cX5_layHill 20 (.aload_n 0) 1 21 := ⟨by decide +kernel, rfl⟩
theorem eX5_layHill_21 : am_d cX5_layHill 21 (.getfield 19) 3 24 := ⟨by decide +kernel, rfl⟩
theorem eX5_layHill_24 : am_d cX5_layHill 24 (.aload_n 0) 1 25 := ⟨by decide +kernel, rfl⟩
theorem eX5_layHill_25 : am_d cX5_layHill 25 (.getfield 22) 3 28 := ⟨by decide +kernel, rfl⟩
theorem eX5_layHill_28 : am_d cX5_layHill 28 (.iload_n 2) 1 29 := ⟨by decide +kernel, rfl⟩
theorem eX5_layHill_29 : am_d cX5_layHill 29 (.iastore) 1 30 := ⟨by decide +kernel, rfl⟩
theorem eX5_layHill_30 : am_d cX5_layHill 30 (.aload_n 0) 1 31 := ⟨by decide +kernel, rfl⟩
theorem eX5_layHill_31 : am_d cX5_layHill 31 (.dup) 1 32 := ⟨by decide +kernel, rfl⟩
theorem eX5_layHill_32 : am_d cX5_layHill 32 (.getfield 22) 3 35 := ⟨by decide +kernel, rfl⟩
theorem eX5_layHill_35 : am_d cX5_layHill 35 (.iconst 1) 1 36 := ⟨by decide +kernel, rfl⟩
theorem eX5_layHill_36 : am_d cX5_layHill 36 (.iadd) 1 37 := ⟨by decide +kernel, rfl⟩
theorem eX5_layHill_37 : am_d cX5_layHill 37 (.putfield 22) 3 40 := ⟨by decide +kernel, rfl⟩
theorem eX5_layHill_40 : am_d cX5_layHill 40 (.iconst 1) 1 41 := ⟨by decide +kernel, rfl⟩
theorem eX5_layHill_41 : am_d cX5_layHill 41 (.ireturn) 1 42 := ⟨by decide +kernel, rfl⟩
theorem eX5_isClear_0 : am_d cX5_isClear 0 (.aload_n 0) 1 1 := ⟨by decide +kernel, rfl⟩
theorem eX5_isClear_1 : am_d cX5_isClear 1 (.getfield 25) 3 4 := ⟨by decide +kernel, rfl⟩
theorem eX5_isClear_4 : am_d cX5_isClear 4 (.iconst 2) 1 5 := ⟨by decide +kernel, rfl⟩
theorem eX5_isClear_5 : am_b cX5_isClear 5 (.if_icmp .eq 20) (20) 8 25 := ⟨by decide +kernel, rfl, by decide⟩
theorem eX5_isClear_8 : am_d cX5_isClear 8 (.aload_n 0) 1 9 := ⟨by decide +kernel, rfl⟩
theorem eX5_isClear_9 : am_d cX5_isClear 9 (.getfield 25) 3 12 := ⟨by decide +kernel, rfl⟩
theorem eX5_isClear_12 : am_d cX5_isClear 12 (.iconst 1) 1 13 := ⟨by decide +kernel, rfl⟩
theorem eX5_isClear_13 : am_b cX5_isClear 13 (.if_icmp .ne 14) (14) 16 27 := ⟨by decide +kernel, rfl, by decide⟩
theorem eX5_isClear_16 : am_d cX5_isClear 16 (.aload_n 0) 1 17 := ⟨by decide +kernel, rfl⟩
theorem eX5_isClear_17 : am_d cX5_isClear 17 (.getfield 9) 3 20 := ⟨by decide +kernel, rfl⟩
theorem eX5_isClear_20 : am_d cX5_isClear 20 (.bipush 10) 2 22 := ⟨by decide +kernel, rfl⟩
theorem eX5_isClear_22 : am_b cX5_isClear 22 (.if_icmp .le 5) (5) 25 27 := ⟨by decide +kernel, rfl, by decide⟩
theorem eX5_isClear_25 : am_d cX5_isClear 25 (.iconst 0) 1 26 := ⟨by decide +kernel, rfl⟩
theorem eX5_isClear_26 : am_d cX5_isClear 26 (.ireturn) 1 27 := ⟨by decide +kernel, rfl⟩
theorem eX5_isClear_27 : am_d cX5_isClear 27 (.iconst 0) 1 28 := ⟨by decide +kernel, rfl⟩
theorem eX5_isClear_28 : am_d cX5_isClear 28 (.istore_n 3) 1 29 := ⟨by decide +kernel, rfl⟩
theorem eX5_isClear_29 : am_d cX5_isClear 29 (.iload_n 3) 1 30 := ⟨by decide +kernel, rfl⟩
theorem eX5_isClear_30 : am_d cX5_isClear 30 (.aload_n 0) 1 31 := ⟨by decide +kernel, rfl⟩
theorem eX5_isClear_31 : am_d cX5_isClear 31 (.getfield 22) 3 34 := ⟨by decide +kernel, rfl⟩
theorem eX5_isClear_34 : am_b cX5_isClear 34 (.if_icmp .ge 37) (37) 37 71 := ⟨by decide +kernel, rfl, by decide⟩
theorem eX5_isClear_37 : am_d cX5_isClear 37 (.aload_n 0) 1 38 := ⟨by decide +kernel, rfl⟩
theorem eX5_isClear_38 : am_d cX5_isClear 38 (.getfield 15) 3 41 := ⟨by decide +kernel, rfl⟩
theorem eX5_isClear_41 : am_d cX5_isClear 41 (.iload_n 3) 1 42 := ⟨by decide +kernel, rfl⟩
theorem eX5_isClear_42 : am_d cX5_isClear 42 (.iaload) 1 43 := ⟨by decide +kernel, rfl⟩
theorem eX5_isClear_43 : am_d cX5_isClear 43 (.iload_n 1) 1 44 := ⟨by decide +kernel, rfl⟩
theorem eX5_isClear_44 : am_d cX5_isClear 44 (.isub) 1 45 := ⟨by decide +kernel, rfl⟩
theorem eX5_isClear_45 : am_d cX5_isClear 45 (.aload_n 0) 1 46 := ⟨by decide +kernel, rfl⟩
theorem eX5_isClear_46 : am_d cX5_isClear 46 (.getfield 9) 3 49 := ⟨by decide +kernel, rfl⟩
theorem eX5_isClear_49 : am_d cX5_isClear 49 (.imul) 1 50 := ⟨by decide +kernel, rfl⟩
theorem eX5_isClear_50 : am_d cX5_isClear 50 (.iload_n 2) 1 51 := ⟨by decide +kernel, rfl⟩
theorem eX5_isClear_51 : am_d cX5_isClear 51 (.iload_n 1) 1 52 := ⟨by decide +kernel, rfl⟩
theorem eX5_isClear_52 : am_d cX5_isClear 52 (.isub) 1 53 := ⟨by decide +kernel, rfl⟩
theorem eX5_isClear_53 : am_d cX5_isClear 53 (.aload_n 0) 1 54 := ⟨by decide +kernel, rfl⟩
theorem eX5_isClear_54 : am_d cX5_isClear 54 (.getfield 19) 3 57 := ⟨by decide +kernel, rfl⟩
theorem eX5_isClear_57 : am_d cX5_isClear 57 (.iload_n 3) 1 58 := ⟨by decide +kernel, rfl⟩
theorem eX5_isClear_58 : am_d cX5_isClear 58 (.iaload) 1 59 := ⟨by decide +kernel, rfl⟩
theorem eX5_isClear_59 : am_d cX5_isClear 59 (.imul) 1 60 := ⟨by decide +kernel, rfl⟩
theorem eX5_isClear_60 : am_b cX5_isClear 60 (.if_icmp .le 5) (5) 63 65 := ⟨by decide +kernel, rfl, by decide⟩
theorem eX5_isClear_63 : am_d cX5_isClear 63 (.iconst 0) 1 64 := ⟨by decide +kernel, rfl⟩
theorem eX5_isClear_64 : am_d cX5_isClear 64 (.ireturn) 1 65 := ⟨by decide +kernel, rfl⟩
theorem eX5_isClear_65 : am_d cX5_isClear 65 (.iinc 3 1) 3 68 := ⟨by decide +kernel, rfl⟩
theorem eX5_isClear_68 : am_b cX5_isClear 68 (.goto (-39)) (-39) 71 29 := ⟨by decide +kernel, rfl, by decide⟩
theorem eX5_isClear_71 : am_d cX5_isClear 71 (.iconst 1) 1 72 := ⟨by decide +kernel, rfl⟩
theorem eX5_isClear_72 : am_d cX5_isClear 72 (.ireturn) 1 73 := ⟨by decide +kernel, rfl⟩
theorem eX6_init_0 : am_d cX6_init 0 (.aload_n 0) 1 1 := ⟨by decide +kernel, rfl⟩
theorem eX6_init_1 : am_d cX6_init 1 (.invokespecial 3) 3 4 := ⟨by decide +kernel, rfl⟩
theorem eX6_init_4 : am_d cX6_init 4 (.aload_n 0) 1 5 := ⟨by decide +kernel, rfl⟩
theorem eX6_init_5 : am_d cX6_init 5 (.bipush 40) 2 7 := ⟨by decide +kernel, rfl⟩
theorem eX6_init_7 : am_d cX6_init 7 (.anewarray 9) 3 10 := ⟨by decide +kernel, rfl⟩
theorem eX6_init_10 : am_d cX6_init 10 (.putfield 11) 3 13 := ⟨by decide +kernel, rfl⟩
theorem eX6_init_13 : am_d cX6_init 13 (.return_) 1 14 := ⟨by decide +kernel, rfl⟩
theorem eX6_putOn_0 : am_d cX6_putOn 0 (.aload_n 0) 1 1 := ⟨by decide +kernel, rfl⟩
theorem eX6_putOn_1 : am_d cX6_putOn 1 (.getfield 17) 3 4 := ⟨by decide +kernel, rfl⟩
theorem eX6_putOn_4 : am_d cX6_putOn 4 (.istore_n 3) 1 5 := ⟨by decide +kernel, rfl⟩
theorem eX6_putOn_5 : am_d cX6_putOn 5 (.aload_n 0) 1 6 := ⟨by decide +kernel, rfl⟩
theorem eX6_putOn_6 : am_d cX6_putOn 6 (.iload_n 1) 1 7 := ⟨by decide +kernel, rfl⟩
theorem eX6_putOn_7 : am_d cX6_putOn 7 (.bipush 96) 2 9 := ⟨by decide +kernel, rfl⟩
theorem eX6_putOn_9 : am_b cX6_putOn 9 (.if_icmp .ne 7) (7) 12 16 := ⟨by decide +kernel, rfl, by decide⟩
theorem eX6_putOn_12 : am_d cX6_putOn 12 (.iconst 1) 1 13 := ⟨by decide +kernel, rfl⟩
theorem eX6_putOn_13 : am_b cX6_putOn 13 (.goto 4) (4) 16 17 := ⟨by decide +kernel, rfl, by decide⟩
theorem eX6_putOn_16 : am_d cX6_putOn 16 (.iconst 0) 1 17 := ⟨by decide +kernel, rfl⟩
theorem eX6_putOn_17 : am_d cX6_putOn 17 (.putfield 17) 3 20 := ⟨by decide +kernel, rfl⟩
theorem eX6_putOn_20 : am_d cX6_putOn 20 (.iload_n 1) 1 21 := ⟨by decide +kernel, rfl⟩
theorem eX6_putOn_21 : am_d cX6_putOn 21 (.bipush 92) 2 23 := ⟨by decide +kernel, rfl⟩
theorem eX6_putOn_23 : am_b cX6_putOn 23 (.if_icmp .ne 12) (12) 26 35 := ⟨by decide +kernel, rfl, by decide⟩
theorem eX6_putOn_26 : am_d cX6_putOn 26 (.aload_n 0) 1 27 := ⟨by decide +kernel, rfl⟩
theorem eX6_putOn_27 : am_d cX6_putOn 27 (.iload_n 2) 1 28 := ⟨by decide +kernel, rfl⟩
theorem eX6_putOn_28 : am_d cX6_putOn 28 (.iload_n 3) 1 29 := ⟨by decide +kernel, rfl⟩
theorem eX6_putOn_29 : am_d cX6_putOn 29 (.invokevirtual 21) 3 32 := ⟨by decide +kernel, rfl⟩
theorem eX6_putOn_32 : am_b cX6_putOn 32 (.goto 51) (51) 35 83 := ⟨by decide +kernel, rfl, by decide⟩
theorem eX6_putOn_35 : am_d cX6_putOn 35 (.iload_n 1) 1 36 := ⟨by decide +kernel, rfl⟩
theorem eX6_putOn_36 : am_d cX6_putOn 36 (.bipush 93) 2 38 := ⟨by decide +kernel, rfl⟩
theorem eX6_putOn_38 : am_b cX6_putOn 38 (.if_icmp .ne 11) (11) 41 49 := ⟨by decide +kernel, rfl, by decide⟩
theorem eX6_putOn_41 : am_d cX6_putOn 41 (.aload_n 0) 1 42 := ⟨by decide +kernel, rfl⟩
theorem eX6_putOn_42 : am_d cX6_putOn 42 (.iload_n 2) 1 43 := ⟨by decide +kernel, rfl⟩
theorem eX6_putOn_43 : am_d cX6_putOn 43 (.invokevirtual 25) 3 46 := ⟨by decide +kernel, rfl⟩
theorem eX6_putOn_46 : am_b cX6_putOn 46 (.goto 37) (37) 49 83 := ⟨by decide +kernel, rfl, by decide⟩
theorem eX6_putOn_49 : am_d cX6_putOn 49 (.iload_n 1) 1 50 := ⟨by decide +kernel, rfl⟩
theorem eX6_putOn_50 : am_d cX6_putOn 50 (.bipush 94) 2 52 := ⟨by decide +kernel, rfl⟩
theorem eX6_putOn_52 : am_b cX6_putOn 52 (.if_icmp .ne 10) (10) 55 62 := ⟨by decide +kernel, rfl, by decide⟩
theorem eX6_putOn_55 : am_d cX6_putOn 55 (.aload_n 0) 1 56 := ⟨by decide +kernel, rfl⟩
theorem eX6_putOn_56 : am_d cX6_putOn 56 (.invokevirtual 29) 3 59 := ⟨by decide +kernel, rfl⟩
theorem eX6_putOn_59 : am_b cX6_putOn 59 (.goto 24) (24) 62 83 := ⟨by decide +kernel, rfl, by decide⟩
theorem eX6_putOn_62 : am_d cX6_putOn 62 (.iload_n 1) 1 63 := ⟨by decide +kernel, rfl⟩
theorem eX6_putOn_63 : am_d cX6_putOn 63 (.bipush 92) 2 65 := ⟨by decide +kernel, rfl⟩
theorem eX6_putOn_65 : am_b cX6_putOn 65 (.if_icmp .ge 18) (18) 68 83 := ⟨by decide +kernel, rfl, by decide⟩
theorem eX6_putOn_68 : am_d cX6_putOn 68 (.aload_n 0) 1 69 := ⟨by decide +kernel, rfl⟩
theorem eX6_putOn_69 : am_d cX6_putOn 69 (.getfield 32) 3 72 := ⟨by decide +kernel, rfl⟩
theorem eX6_putOn_72 : am_b cX6_putOn 72 (.ifnull 11) (11) 75 83 := ⟨by decide +kernel, rfl, by decide⟩
theorem eX6_putOn_75 : am_d cX6_putOn 75 (.aload_n 0) 1 76 := ⟨by decide +kernel, rfl⟩
theorem eX6_putOn_76 : am_d cX6_putOn 76 (.getfield 32) 3 79 := ⟨by decide +kernel, rfl⟩
theorem eX6_putOn_79 : am_d cX6_putOn 79 (.iload_n 1) 1 80 := ⟨by decide +kernel, rfl⟩
theorem eX6_putOn_80 : am_d cX6_putOn 80 (.invokevirtual 36) 3 83 := ⟨by decide +kernel, rfl⟩
theorem eX6_putOn_83 : am_d cX6_putOn 83 (.return_) 1 84 := ⟨by decide +kernel, rfl⟩
theorem eX6_begin_0 : am_d cX6_begin 0 (.iload_n 2) 1 1 := ⟨by decide +kernel, rfl⟩
theorem eX6_begin_1 : am_b cX6_begin 1 (.ifCond .ne 24) (24) 4 25 := ⟨by decide +kernel, rfl, by decide⟩
theorem eX6_begin_4 : am_d cX6_begin 4 (.aload_n 0) 1 5 := ⟨by decide +kernel, rfl⟩
theorem eX6_begin_5 : am_d cX6_begin 5 (.getfield 32) 3 8 := ⟨by decide +kernel, rfl⟩
theorem eX6_begin_8 : am_b cX6_begin 8 (.ifnull 17) (17) 11 25 := ⟨by decide +kernel, rfl, by decide⟩
theorem eX6_begin_11 : am_d cX6_begin 11 (.aload_n 0) 1 12 := ⟨by decide +kernel, rfl⟩
theorem eX6_begin_12 : am_d cX6_begin 12 (.getfield 32) 3 15 := ⟨by decide +kernel, rfl⟩
theorem eX6_begin_15 : am_d cX6_begin 15 (.getfield 39) 3 18 := ⟨by decide +kernel, rfl⟩
theorem eX6_begin_18 : am_b cX6_begin 18 (.ifCond .ne 7) (7) 21 25 := ⟨by decide +kernel, rfl, by decide⟩
theorem eX6_begin_21 : am_d cX6_begin 21 (.aload_n 0) 1 22 := ⟨by decide +kernel, rfl⟩
theorem eX6_begin_22 : am_d cX6_begin 22 (.invokevirtual 29) 3 25 := ⟨by decide +kernel, rfl⟩
theorem eX6_begin_25 : am_d cX6_begin 25 (.aload_n 0) 1 26 := ⟨by decide +kernel, rfl⟩
theorem eX6_begin_26 : am_d cX6_begin 26 (.new 9) 3 29 := ⟨by decide +kernel, rfl⟩
theorem eX6_begin_29 : am_d cX6_begin 29 (.dup) 1 30 := ⟨by decide +kernel, rfl⟩
theorem eX6_begin_30 : am_d cX6_begin 30 (.iload_n 1) 1 31 := ⟨by decide +kernel, rfl⟩
theorem eX6_begin_31 : am_d cX6_begin 31 (.iload_n 2) 1 32 := ⟨by decide +kernel, rfl⟩
theorem eX6_begin_32 : am_d cX6_begin 32 (.aload_n 0) 1 33 := ⟨by decide +kernel, rfl⟩
theorem eX6_begin_33 : am_d cX6_begin 33 (.getfield 32) 3 36 := ⟨by decide +kernel, rfl⟩
theorem eX6_begin_36 : am_d cX6_begin 36 (.invokespecial 42) 3 39 := ⟨by decide +kernel, rfl⟩
theorem eX6_begin_39 : am_d cX6_begin 39 (.putfield 32) 3 42 := ⟨by decide +kernel, rfl⟩
theorem eX6_begin_42 : am_d cX6_begin 42 (.aload_n 0) 1 43 := ⟨by decide +kernel, rfl⟩
theorem eX6_begin_43 : am_d cX6_begin 43 (.dup) 1 44 := ⟨by decide +kernel, rfl⟩
theorem eX6_begin_44 : am_d cX6_begin 44 (.getfield 45) 3 47 := ⟨by decide +kernel, rfl⟩
theorem eX6_begin_47 : am_d cX6_begin 47 (.iconst 1) 1 48 := ⟨by decide +kernel, rfl⟩
theorem eX6_begin_48 : am_d cX6_begin 48 (.iadd) 1 49 := ⟨by decide +kernel, rfl⟩
theorem eX6_begin_49 : am_d cX6_begin 49 (.putfield 45) 3 52 := ⟨by decide +kernel, rfl⟩
theorem eX6_begin_52 : am_d cX6_begin 52 (.return_) 1 53 := ⟨by decide +kernel, rfl⟩
theorem eX6_end_0 : am_d cX6_end 0 (.aload_n 0) 1 1 := ⟨by decide +kernel, rfl⟩
theorem eX6_end_1 : am_d cX6_end 1 (.getfield 32) 3 4 := ⟨by decide +kernel, rfl⟩
theorem eX6_end_4 : am_b cX6_end 4 (.ifnonnull 4) (4) 7 8 := ⟨by decide +kernel, rfl, by decide⟩
theorem eX6_end_7 : am_d cX6_end 7 (.return_) 1 8 := ⟨by decide +kernel, rfl⟩
theorem eX6_end_8 : am_d cX6_end 8 (.aload_n 0) 1 9 := ⟨by decide +kernel, rfl⟩
theorem eX6_end_9 : am_d cX6_end 9 (.getfield 32) 3 12 := ⟨by decide +kernel, rfl⟩
theorem eX6_end_12 : am_d cX6_end 12 (.astore_n 2) 1 13 := ⟨by decide +kernel, rfl⟩
theorem eX6_end_13 : am_d cX6_end 13 (.aload_n 0) 1 14 := ⟨by decide +kernel, rfl⟩
theorem eX6_end_14 : am_d cX6_end 14 (.aload_n 2) 1 15 := ⟨by decide +kernel, rfl⟩
theorem eX6_end_15 : am_d cX6_end 15 (.getfield 49) 3 18 := ⟨by decide +kernel, rfl⟩
theorem eX6_end_18 : am_d cX6_end 18 (.putfield 32) 3 21 := ⟨by decide +kernel, rfl⟩
theorem eX6_end_21 : am_d cX6_end 21 (.aload_n 0) 1 22 := ⟨by decide +kernel, rfl⟩
theorem eX6_end_22 : am_d cX6_end 22 (.dup) 1 23 := ⟨by decide +kernel, rfl⟩
theorem eX6_end_23 : am_d cX6_end 23 (.getfield 45) 3 26 := ⟨by decide +kernel, rfl⟩
theorem eX6_end_26 : am_d cX6_end 26 (.iconst 1) 1 27 := ⟨by decide +kernel, rfl⟩
theorem eX6_end_27 : am_d cX6_end 27 (.isub) 1 28 := ⟨by decide +kernel, rfl⟩
theorem eX6_end_28 : am_d cX6_end 28 (.putfield 45) 3 31 := ⟨by decide +kernel, rfl⟩
theorem eX6_end_31 : am_d cX6_end 31 (.aload_n 2) 1 32 := ⟨by decide +kernel, rfl⟩
theorem eX6_end_32 : am_d cX6_end 32 (.iload_n 1) 1 33 := ⟨by decide +kernel, rfl⟩
theorem eX6_end_33 : am_d cX6_end 33 (.putfield 52) 3 36 := ⟨by decide +kernel, rfl⟩
theorem eX6_end_36 : am_d cX6_end 36 (.aload_n 0) 1 37 := ⟨by decide +kernel, rfl⟩
theorem eX6_end_37 : am_d cX6_end 37 (.getfield 55) 3 40 := ⟨by decide +kernel, rfl⟩
theorem eX6_end_40 : am_d cX6_end 40 (.bipush 40) 2 42 := ⟨by decide +kernel, rfl⟩
theorem eX6_end_42 : am_b cX6_end 42 (.if_icmp .ge 23) (23) 45 65 := ⟨by decide +kernel, rfl, by decide⟩
theorem eX6_end_45 : am_d cX6_end 45 (.aload_n 0) 1 46 := ⟨by decide +kernel, rfl⟩
theorem eX6_end_46 : am_d cX6_end 46 (.getfield 11) 3 49 := ⟨by decide +kernel, rfl⟩
theorem eX6_end_49 : am_d cX6_end 49 (.aload_n 0) 1 50 := ⟨by decide +kernel, rfl⟩
theorem eX6_end_50 : am_d cX6_end 50 (.getfield 55) 3 53 := ⟨by decide +kernel, rfl⟩
theorem eX6_end_53 : am_d cX6_end 53 (.aload_n 2) 1 54 := ⟨by decide +kernel, rfl⟩
theorem eX6_end_54 : am_d cX6_end 54 (.aastore) 1 55 := ⟨by decide +kernel, rfl⟩
theorem eX6_end_55 : am_d cX6_end 55 (.aload_n 0) 1 56 := ⟨by decide +kernel, rfl⟩
theorem eX6_end_56 : am_d cX6_end 56 (.dup) 1 57 := ⟨by decide +kernel, rfl⟩
theorem eX6_end_57 : am_d cX6_end 57 (.getfield 55) 3 60 := ⟨by decide +kernel, rfl⟩
theorem eX6_end_60 : am_d cX6_end 60 (.iconst 1) 1 61 := ⟨by decide +kernel, rfl⟩
theorem eX6_end_61 : am_d cX6_end 61 (.iadd) 1 62 := ⟨by decide +kernel, rfl⟩
theorem eX6_end_62 : am_d cX6_end 62 (.putfield 55) 3 65 := ⟨by decide +kernel, rfl⟩
theorem eX6_end_65 : am_d cX6_end 65 (.return_) 1 66 := ⟨by decide +kernel, rfl⟩
theorem eX6_dropAll_0 : am_d cX6_dropAll 0 (.aload_n 0) 1 1 := ⟨by decide +kernel, rfl⟩
theorem eX6_dropAll_1 : am_d cX6_dropAll 1 (.aconst_null) 1 2 := ⟨by decide +kernel, rfl⟩
theorem eX6_dropAll_2 : am_d cX6_dropAll 2 (.putfield 32) 3 5 := ⟨by decide +kernel, rfl⟩
theorem eX6_dropAll_5 : am_d cX6_dropAll 5 (.aload_n 0) 1 6 := ⟨by decide +kernel, rfl⟩
theorem eX6_dropAll_6 : am_d cX6_dropAll 6 (.iconst 0) 1 7 := ⟨by decide +kernel, rfl⟩
theorem eX6_dropAll_7 : am_d cX6_dropAll 7 (.putfield 45) 3 10 := ⟨by decide +kernel, rfl⟩
theorem eX6_dropAll_10 : am_d cX6_dropAll 10 (.return_) 1 11 := ⟨by decide +kernel, rfl⟩
theorem eX7_init_0 : am_d cX7_init 0 (.aload_n 0) 1 1 := ⟨by decide +kernel, rfl⟩
theorem eX7_init_1 : am_d cX7_init 1 (.invokespecial 1) 3 4 := ⟨by decide +kernel, rfl⟩
theorem eX7_init_4 : am_d cX7_init 4 (.aload_n 0) 1 5 := ⟨by decide +kernel, rfl⟩
theorem eX7_init_5 : am_d cX7_init 5 (.iload_n 1) 1 6 := ⟨by decide +kernel, rfl⟩
theorem eX7_init_6 : am_d cX7_init 6 (.putfield 7) 3 9 := ⟨by decide +kernel, rfl⟩
theorem eX7_init_9 : am_d cX7_init 9 (.aload_n 0) 1 10 := ⟨by decide +kernel, rfl⟩
theorem eX7_init_10 : am_d cX7_init 10 (.new 13) 3 13 := ⟨by decide +kernel, rfl⟩
theorem eX7_init_13 : am_d cX7_init 13 (.dup) 1 14 := ⟨by decide +kernel, rfl⟩
theorem eX7_init_14 : am_d cX7_init 14 (.invokespecial 15) 3 17 := ⟨by decide +kernel, rfl⟩
theorem eX7_init_17 : am_d cX7_init 17 (.putfield 16) 3 20 := ⟨by decide +kernel, rfl⟩
theorem eX7_init_20 : am_d cX7_init 20 (.aload_n 0) 1 21 := ⟨by decide +kernel, rfl⟩
theorem eX7_init_21 : am_d cX7_init 21 (.new 13) 3 24 := ⟨by decide +kernel, rfl⟩
theorem eX7_init_24 : am_d cX7_init 24 (.dup) 1 25 := ⟨by decide +kernel, rfl⟩
theorem eX7_init_25 : am_d cX7_init 25 (.invokespecial 15) 3 28 := ⟨by decide +kernel, rfl⟩
theorem eX7_init_28 : am_d cX7_init 28 (.putfield 20) 3 31 := ⟨by decide +kernel, rfl⟩
theorem eX7_init_31 : am_d cX7_init 31 (.return_) 1 32 := ⟨by decide +kernel, rfl⟩
theorem eX7_armFor_0 : am_d cX7_armFor 0 (.iload_n 1) 1 1 := ⟨by decide +kernel, rfl⟩
theorem eX7_armFor_1 : am_b cX7_armFor 1 (.ifCond .eq 10) (10) 4 11 := ⟨by decide +kernel, rfl, by decide⟩
theorem eX7_armFor_4 : am_d cX7_armFor 4 (.aload_n 0) 1 5 := ⟨by decide +kernel, rfl⟩
theorem eX7_armFor_5 : am_d cX7_armFor 5 (.getfield 16) 3 8 := ⟨by decide +kernel, rfl⟩
theorem eX7_armFor_8 : am_b cX7_armFor 8 (.goto 7) (7) 11 15 := ⟨by decide +kernel, rfl, by decide⟩
theorem eX7_armFor_11 : am_d cX7_armFor 11 (.aload_n 0) 1 12 := ⟨by decide +kernel, rfl⟩
theorem eX7_armFor_12 : am_d cX7_armFor 12 (.getfield 20) 3 15 := ⟨by decide +kernel, rfl⟩
theorem eX7_armFor_15 : am_d cX7_armFor 15 (.areturn) 1 16 := ⟨by decide +kernel, rfl⟩
theorem eX8_init_0 : am_d cX8_init 0 (.aload_n 0) 1 1 := ⟨by decide +kernel, rfl⟩
theorem eX8_init_1 : am_d cX8_init 1 (.invokespecial 3) 3 4 := ⟨by decide +kernel, rfl⟩
theorem eX8_init_4 : am_d cX8_init 4 (.aload_n 0) 1 5 := ⟨by decide +kernel, rfl⟩
theorem eX8_init_5 : am_d cX8_init 5 (.bipush 12) 2 7 := ⟨by decide +kernel, rfl⟩
theorem eX8_init_7 : am_d cX8_init 7 (.anewarray 9) 3 10 := ⟨by decide +kernel, rfl⟩
theorem eX8_init_10 : am_d cX8_init 10 (.putfield 11) 3 13 := ⟨by decide +kernel, rfl⟩
theorem eX8_init_13 : am_d cX8_init 13 (.aload_n 0) 1 14 := ⟨by decide +kernel, rfl⟩
theorem eX8_init_14 : am_d cX8_init 14 (.bipush 12) 2 16 := ⟨by decide +kernel, rfl⟩
theorem eX8_init_16 : am_d cX8_init 16 (.anewarray 15) 3 19 := ⟨by decide +kernel, rfl⟩
theorem eX8_init_19 : am_d cX8_init 19 (.putfield 17) 3 22 := ⟨by decide +kernel, rfl⟩
theorem eX8_init_22 : am_d cX8_init 22 (.aload_n 0) 1 23 := ⟨by decide +kernel, rfl⟩
theorem eX8_init_23 : am_d cX8_init 23 (.sipush 360) 3 26 := ⟨by decide +kernel, rfl⟩
theorem eX8_init_26 : am_d cX8_init 26 (.putfield 21) 3 29 := ⟨by decide +kernel, rfl⟩
theorem eX8_init_29 : am_d cX8_init 29 (.aload_n 0) 1 30 := ⟨by decide +kernel, rfl⟩
theorem eX8_init_30 : am_d cX8_init 30 (.iconst 3) 1 31 := ⟨by decide +kernel, rfl⟩
theorem eX8_init_31 : am_d cX8_init 31 (.anewarray 25) 3 34 := ⟨by decide +kernel, rfl⟩
theorem eX8_init_34 : am_d cX8_init 34 (.putfield 27) 3 37 := ⟨by decide +kernel, rfl⟩
theorem eX8_init_37 : am_d cX8_init 37 (.iconst 0) 1 38 := ⟨by decide +kernel, rfl⟩
theorem eX8_init_38 : am_d cX8_init 38 (.istore_n 1) 1 39 := ⟨by decide +kernel, rfl⟩
theorem eX8_init_39 : am_d cX8_init 39 (.iload_n 1) 1 40 := ⟨by decide +kernel, rfl⟩
theorem eX8_init_40 : am_d cX8_init 40 (.iconst 3) 1 41 := ⟨by decide +kernel, rfl⟩
theorem eX8_init_41 : am_b cX8_init 41 (.if_icmp .ge 22) (22) 44 63 := ⟨by decide +kernel, rfl, by decide⟩
theorem eX8_init_44 : am_d cX8_init 44 (.aload_n 0) 1 45 := ⟨by decide +kernel, rfl⟩
theorem eX8_init_45 : am_d cX8_init 45 (.getfield 27) 3 48 := ⟨by decide +kernel, rfl⟩
theorem eX8_init_48 : am_d cX8_init 48 (.iload_n 1) 1 49 := ⟨by decide +kernel, rfl⟩
theorem eX8_init_49 : am_d cX8_init 49 (.new 25) 3 52 := ⟨by decide +kernel, rfl⟩
theorem eX8_init_52 : am_d cX8_init 52 (.dup) 1 53 := ⟨by decide +kernel, rfl⟩
theorem eX8_init_53 : am_d cX8_init 53 (.invokespecial 31) 3 56 := ⟨by decide +kernel, rfl⟩
theorem eX8_init_56 : am_d cX8_init 56 (.aastore) 1 57 := ⟨by decide +kernel, rfl⟩
theorem eX8_init_57 : am_d cX8_init 57 (.iinc 1 1) 3 60 := ⟨by decide +kernel, rfl⟩
theorem eX8_init_60 : am_b cX8_init 60 (.goto (-21)) (-21) 63 39 := ⟨by decide +kernel, rfl, by decide⟩
theorem eX8_init_63 : am_d cX8_init 63 (.aload_n 0) 1 64 := ⟨by decide +kernel, rfl⟩
theorem eX8_init_64 : am_d cX8_init 64 (.bipush 12) 2 66 := ⟨by decide +kernel, rfl⟩
theorem eX8_init_66 : am_d cX8_init 66 (.newarray .int) 2 68 := ⟨by decide +kernel, rfl⟩
theorem eX8_init_68 : am_d cX8_init 68 (.putfield 32) 3 71 := ⟨by decide +kernel, rfl⟩
theorem eX8_init_71 : am_d cX8_init 71 (.aload_n 0) 1 72 := ⟨by decide +kernel, rfl⟩
theorem eX8_init_72 : am_d cX8_init 72 (.bipush 27) 2 74 := ⟨by decide +kernel, rfl⟩
theorem eX8_init_74 : am_d cX8_init 74 (.newarray .int) 2 76 := ⟨by decide +kernel, rfl⟩
theorem eX8_init_76 : am_d cX8_init 76 (.putfield 36) 3 79 := ⟨by decide +kernel, rfl⟩
theorem eX8_init_79 : am_d cX8_init 79 (.aload_n 0) 1 80 := ⟨by decide +kernel, rfl⟩
theorem eX8_init_80 : am_d cX8_init 80 (.new 39) 3 83 := ⟨by decide +kernel, rfl⟩
theorem eX8_init_83 : am_d cX8_init 83 (.dup) 1 84 := ⟨by decide +kernel, rfl⟩
theorem eX8_init_84 : am_d cX8_init 84 (.invokespecial 41) 3 87 := ⟨by decide +kernel, rfl⟩
theorem eX8_init_87 : am_d cX8_init 87 (.putfield 42) 3 90 := ⟨by decide +kernel, rfl⟩
theorem eX8_init_90 : am_d cX8_init 90 (.aload_n 0) 1 91 := ⟨by decide +kernel, rfl⟩
theorem eX8_init_91 : am_d cX8_init 91 (.new 39) 3 94 := ⟨by decide +kernel, rfl⟩
theorem eX8_init_94 : am_d cX8_init 94 (.dup) 1 95 := ⟨by decide +kernel, rfl⟩
theorem eX8_init_95 : am_d cX8_init 95 (.invokespecial 41) 3 98 := ⟨by decide +kernel, rfl⟩
theorem eX8_init_98 : am_d cX8_init 98 (.putfield 46) 3 101 := ⟨by decide +kernel, rfl⟩
theorem eX8_init_101 : am_d cX8_init 101 (.aload_n 0) 1 102 := ⟨by decide +kernel, rfl⟩
theorem eX8_init_102 : am_d cX8_init 102 (.bipush 6) 2 104 := ⟨by decide +kernel, rfl⟩
theorem eX8_init_104 : am_d cX8_init 104 (.anewarray 49) 3 107 := ⟨by decide +kernel, rfl⟩
theorem eX8_init_107 : am_d cX8_init 107 (.putfield 51) 3 110 := ⟨by decide +kernel, rfl⟩
theorem eX8_init_110 : am_d cX8_init 110 (.return_) 1 111 := ⟨by decide +kernel, rfl⟩
theorem eX8_tower_0 : am_d cX8_tower 0 (.iload_n 1) 1 1 := ⟨by decide +kernel, rfl⟩
theorem eX8_tower_1 : am_d cX8_tower 1 (.iconst 0) 1 2 := ⟨by decide +kernel, rfl⟩
theorem eX8_tower_2 : am_d cX8_tower 2 (.bipush 99) 2 4 := ⟨by decide +kernel, rfl⟩
theorem eX8_tower_4 : am_d cX8_tower 4 (.invokestatic 55) 3 7 := ⟨by decide +kernel, rfl⟩
theorem eX8_tower_7 : am_b cX8_tower 7 (.ifCond .ne 13) (13) 10 20 := ⟨by decide +kernel, rfl, by decide⟩
theorem eX8_tower_10 : am_d cX8_tower 10 (.iload_n 2) 1 11 := ⟨by decide +kernel, rfl⟩
theorem eX8_tower_11 : am_d cX8_tower 11 (.iconst 1) 1 12 := ⟨by decide +kernel, rfl⟩
theorem eX8_tower_12 : am_d cX8_tower 12 (.bipush 20) 2 14 := ⟨by decide +kernel, rfl⟩
theorem eX8_tower_14 : am_d cX8_tower 14 (.invokestatic 55) 3 17 := ⟨by decide +kernel, rfl⟩
theorem eX8_tower_17 : am_b cX8_tower 17 (.ifCond .eq 13) (13) 20 30 := ⟨by decide +kernel, rfl, by decide⟩
theorem eX8_tower_20 : am_d cX8_tower 20 (.new 59) 3 23 := ⟨by decide +kernel, rfl⟩
theorem eX8_tower_23 : am_d cX8_tower 23 (.dup) 1 24 := ⟨by decide +kernel, rfl⟩
theorem eX8_tower_24 : am_d cX8_tower 24 (.ldc 61) 2 26 := ⟨by decide +kernel, rfl⟩
theorem eX8_tower_26 : am_d cX8_tower 26 (.invokespecial 63) 3 29 := ⟨by decide +kernel, rfl⟩
theorem eX8_tower_29 : am_d cX8_tower 29 (.athrow) 1 30 := ⟨by decide +kernel, rfl⟩
theorem eX8_tower_30 : am_d cX8_tower 30 (.aload_n 0) 1 31 := ⟨by decide +kernel, rfl⟩
theorem eX8_tower_31 : am_d cX8_tower 31 (.getfield 66) 3 34 := ⟨by decide +kernel, rfl⟩
theorem eX8_tower_34 : am_d cX8_tower 34 (.bipush 12) 2 36 := ⟨by decide +kernel, rfl⟩
theorem eX8_tower_36 : am_b cX8_tower 36 (.if_icmp .ge 10) (10) 39 46 := ⟨by decide +kernel, rfl, by decide⟩
theorem eX8_tower_39 : am_d cX8_tower 39 (.aload_n 0) 1 40 := ⟨by decide +kernel, rfl⟩
theorem eX8_tower_40 : am_d cX8_tower 40 (.getfield 69) 3 43 := ⟨by decide +kernel, rfl⟩
theorem eX8_tower_43 : am_b cX8_tower 43 (.ifCond .eq 13) (13) 46 56 := ⟨by decide +kernel, rfl, by decide⟩
theorem eX8_tower_46 : am_d cX8_tower 46 (.new 73) 3 49 := ⟨by decide +kernel, rfl⟩
theorem eX8_tower_49 : am_d cX8_tower 49 (.dup) 1 50 := ⟨by decide +kernel, rfl⟩
theorem eX8_tower_50 : am_d cX8_tower 50 (.ldc 75) 2 52 := ⟨by decide +kernel, rfl⟩
theorem eX8_tower_52 : am_d cX8_tower 52 (.invokespecial 77) 3 55 := ⟨by decide +kernel, rfl⟩
theorem eX8_tower_55 : am_d cX8_tower 55 (.athrow) 1 56 := ⟨by decide +kernel, rfl⟩
theorem eX8_tower_56 : am_d cX8_tower 56 (.aload_n 0) 1 57 := ⟨by decide +kernel, rfl⟩
theorem eX8_tower_57 : am_d cX8_tower 57 (.getfield 11) 3 60 := ⟨by decide +kernel, rfl⟩
theorem eX8_tower_60 : am_d cX8_tower 60 (.aload_n 0) 1 61 := ⟨by decide +kernel, rfl⟩
theorem eX8_tower_61 : am_d cX8_tower 61 (.getfield 66) 3 64 := ⟨by decide +kernel, rfl⟩
theorem eX8_tower_64 : am_d cX8_tower 64 (.new 9) 3 67 := ⟨by decide +kernel, rfl⟩
theorem eX8_tower_67 : am_d cX8_tower 67 (.dup) 1 68 := ⟨by decide +kernel, rfl⟩
theorem eX8_tower_68 : am_d cX8_tower 68 (.iload_n 1) 1 69 := ⟨by decide +kernel, rfl⟩
theorem eX8_tower_69 : am_d cX8_tower 69 (.invokespecial 78) 3 72 := ⟨by decide +kernel, rfl⟩
theorem eX8_tower_72 : am_d cX8_tower 72 (.aastore) 1 73 := ⟨by decide +kernel, rfl⟩
theorem eX8_tower_73 : am_d cX8_tower 73 (.aload_n 0) 1 74 := ⟨by decide +kernel, rfl⟩
theorem eX8_tower_74 : am_d cX8_tower 74 (.getfield 66) 3 77 := ⟨by decide +kernel, rfl⟩
theorem eX8_tower_77 : am_b cX8_tower 77 (.ifCond .le 22) (22) 80 99 := ⟨by decide +kernel, rfl, by decide⟩
theorem eX8_tower_80 : am_d cX8_tower 80 (.aload_n 0) 1 81 := ⟨by decide +kernel, rfl⟩
theorem eX8_tower_81 : am_d cX8_tower 81 (.getfield 17) 3 84 := ⟨by decide +kernel, rfl⟩
theorem eX8_tower_84 : am_d cX8_tower 84 (.aload_n 0) 1 85 := ⟨by decide +kernel, rfl⟩
theorem eX8_tower_85 : am_d cX8_tower 85 (.getfield 66) 3 88 := ⟨by decide +kernel, rfl⟩
theorem eX8_tower_88 : am_d cX8_tower 88 (.iconst 1) 1 89 := ⟨by decide +kernel, rfl⟩
theorem eX8_tower_89 : am_d cX8_tower 89 (.isub) 1 90 := ⟨by decide +kernel, rfl⟩
theorem eX8_tower_90 : am_d cX8_tower 90 (.new 15) 3 93 := ⟨by decide +kernel, rfl⟩
theorem eX8_tower_93 : am_d cX8_tower 93 (.dup) 1 94 := ⟨by decide +kernel, rfl⟩
theorem eX8_tower_94 : am_d cX8_tower 94 (.iload_n 2) 1 95 := ⟨by decide +kernel, rfl⟩
theorem eX8_tower_95 : am_d cX8_tower 95 (.invokespecial 81) 3 98 := ⟨by decide +kernel, rfl⟩
theorem eX8_tower_98 : am_d cX8_tower 98 (.aastore) 1 99 := ⟨by decide +kernel, rfl⟩
theorem eX8_tower_99 : am_d cX8_tower 99 (.aload_n 0) 1 100 := ⟨by decide +kernel, rfl⟩
theorem eX8_tower_100 : am_d cX8_tower 100 (.dup) 1 101 := ⟨by decide +kernel, rfl⟩
theorem eX8_tower_101 : am_d cX8_tower 101 (.getfield 66) 3 104 := ⟨by decide +kernel, rfl⟩
theorem eX8_tower_104 : am_d cX8_tower 104 (.iconst 1) 1 105 := ⟨by decide +kernel, rfl⟩
theorem eX8_tower_105 : am_d cX8_tower 105 (.iadd) 1 106 := ⟨by decide +kernel, rfl⟩
theorem eX8_tower_106 : am_d cX8_tower 106 (.putfield 66) 3 109 := ⟨by decide +kernel, rfl⟩
theorem eX8_tower_109 : am_d cX8_tower 109 (.aload_n 0) 1 110 := ⟨by decide +kernel, rfl⟩
theorem eX8_tower_110 : am_d cX8_tower 110 (.getfield 66) 3 113 := ⟨by decide +kernel, rfl⟩
theorem eX8_tower_113 : am_d cX8_tower 113 (.iconst 1) 1 114 := ⟨by decide +kernel, rfl⟩
theorem eX8_tower_114 : am_d cX8_tower 114 (.isub) 1 115 := ⟨by decide +kernel, rfl⟩
theorem eX8_tower_115 : am_d cX8_tower 115 (.ireturn) 1 116 := ⟨by decide +kernel, rfl⟩
theorem eX8_hill_0 : am_d cX8_hill 0 (.aload_n 0) 1 1 := ⟨by decide +kernel, rfl⟩
theorem eX8_hill_1 : am_d cX8_hill 1 (.iload_n 1) 1 2 := ⟨by decide +kernel, rfl⟩
theorem eX8_hill_2 : am_d cX8_hill 2 (.invokevirtual 82) 3 5 := ⟨by decide +kernel, rfl⟩
theorem eX8_hill_5 : am_d cX8_hill 5 (.astore 4) 2 7 := ⟨by decide +kernel, rfl⟩
theorem eX8_hill_7 : am_d cX8_hill 7 (.iload_n 2) 1 8 := ⟨by decide +kernel, rfl⟩
theorem eX8_hill_8 : am_d cX8_hill 8 (.iconst 0) 1 9 := ⟨by decide +kernel, rfl⟩
theorem eX8_hill_9 : am_d cX8_hill 9 (.bipush 99) 2 11 := ⟨by decide +kernel, rfl⟩
theorem eX8_hill_11 : am_d cX8_hill 11 (.invokestatic 55) 3 14 := ⟨by decide +kernel, rfl⟩
theorem eX8_hill_14 : am_b cX8_hill 14 (.ifCond .ne 18) (18) 17 32 := ⟨by decide +kernel, rfl, by decide⟩
theorem eX8_hill_17 : am_d cX8_hill 17 (.iload_n 3) 1 18 := ⟨by decide +kernel, rfl⟩
theorem eX8_hill_18 : am_d cX8_hill 18 (.iconst 1) 1 19 := ⟨by decide +kernel, rfl⟩
theorem eX8_hill_19 : am_d cX8_hill 19 (.aload 4) 2 21 := ⟨by decide +kernel, rfl⟩
theorem eX8_hill_21 : am_d cX8_hill 21 (.getfield 86) 3 24 := ⟨by decide +kernel, rfl⟩
theorem eX8_hill_24 : am_d cX8_hill 24 (.iconst 1) 1 25 := ⟨by decide +kernel, rfl⟩
theorem eX8_hill_25 : am_d cX8_hill 25 (.isub) 1 26 := ⟨by decide +kernel, rfl⟩
theorem eX8_hill_26 : am_d cX8_hill 26 (.invokestatic 55) 3 29 := ⟨by decide +kernel, rfl⟩
theorem eX8_hill_29 : am_b cX8_hill 29 (.ifCond .eq 13) (13) 32 42 := ⟨by decide +kernel, rfl, by decide⟩
theorem eX8_hill_32 : am_d cX8_hill 32 (.new 59) 3 35 := ⟨by decide +kernel, rfl⟩
theorem eX8_hill_35 : am_d cX8_hill 35 (.dup) 1 36 := ⟨by decide +kernel, rfl⟩
theorem eX8_hill_36 : am_d cX8_hill 36 (.ldc 89) 2 38 := ⟨by decide +kernel, rfl⟩
theorem eX8_hill_38 : am_d cX8_hill 38 (.invokespecial 63) 3 41 := ⟨by decide +kernel, rfl⟩
theorem eX8_hill_41 : am_d cX8_hill 41 (.athrow) 1 42 := ⟨by decide +kernel, rfl⟩
theorem eX8_hill_42 : am_d cX8_hill 42 (.aload 4) 2 44 := ⟨by decide +kernel, rfl⟩
theorem eX8_hill_44 : am_d cX8_hill 44 (.iload_n 2) 1 45 := ⟨by decide +kernel, rfl⟩
theorem eX8_hill_45 : am_d cX8_hill 45 (.iload_n 3) 1 46 := ⟨by decide +kernel, rfl⟩
theorem eX8_hill_46 : am_d cX8_hill 46 (.invokevirtual 91) 3 49 := ⟨by decide +kernel, rfl⟩
theorem eX8_hill_49 : am_b cX8_hill 49 (.ifCond .ne 13) (13) 52 62 := ⟨by decide +kernel, rfl, by decide⟩
theorem eX8_hill_52 : am_d cX8_hill 52 (.new 73) 3 55 := ⟨by decide +kernel, rfl⟩
theorem eX8_hill_55 : am_d cX8_hill 55 (.dup) 1 56 := ⟨by decide +kernel, rfl⟩
theorem eX8_hill_56 : am_d cX8_hill 56 (.ldc 95) 2 58 := ⟨by decide +kernel, rfl⟩
theorem eX8_hill_58 : am_d cX8_hill 58 (.invokespecial 77) 3 61 := ⟨by decide +kernel, rfl⟩
theorem eX8_hill_61 : am_d cX8_hill 61 (.athrow) 1 62 := ⟨by decide +kernel, rfl⟩
theorem eX8_hill_62 : am_d cX8_hill 62 (.aload 4) 2 64 := ⟨by decide +kernel, rfl⟩
theorem eX8_hill_64 : am_d cX8_hill 64 (.getfield 97) 3 67 := ⟨by decide +kernel, rfl⟩
theorem eX8_hill_67 : am_d cX8_hill 67 (.ireturn) 1 68 := ⟨by decide +kernel, rfl⟩
theorem eX8_air_0 : am_d cX8_air 0 (.aload_n 0) 1 1 := ⟨by decide +kernel, rfl⟩
theorem eX8_air_1 : am_d cX8_air 1 (.iload_n 1) 1 2 := ⟨by decide +kernel, rfl⟩
theorem eX8_air_2 : am_d cX8_air 2 (.invokevirtual 82) 3 5 := ⟨by decide +kernel, rfl⟩
theorem eX8_air_5 : am_d cX8_air 5 (.astore_n 3) 1 6 := ⟨by decide +kernel, rfl⟩
theorem eX8_air_6 : am_d cX8_air 6 (.iload_n 2) 1 7 := ⟨by decide +kernel, rfl⟩
theorem eX8_air_7 : am_d cX8_air 7 (.iconst 0) 1 8 := ⟨by decide +kernel, rfl⟩
theorem eX8_air_8 : am_d cX8_air 8 (.iconst 2) 1 9 := ⟨by decide +kernel, rfl⟩
theorem eX8_air_9 : am_d cX8_air 9 (.invokestatic 55) 3 12 := ⟨by decide +kernel, rfl⟩
theorem eX8_air_12 : am_b cX8_air 12 (.ifCond .eq 13) (13) 15 25 := ⟨by decide +kernel, rfl, by decide⟩
theorem eX8_air_15 : am_d cX8_air 15 (.new 59) 3 18 := ⟨by decide +kernel, rfl⟩
theorem eX8_air_18 : am_d cX8_air 18 (.dup) 1 19 := ⟨by decide +kernel, rfl⟩
theorem eX8_air_19 : am_d cX8_air 19 (.ldc 100) 2 21 := ⟨by decide +kernel, rfl⟩
theorem eX8_air_21 : am_d cX8_air 21 (.invokespecial 63) 3 24 := ⟨by decide +kernel, rfl⟩
theorem eX8_air_24 : am_d cX8_air 24 (.athrow) 1 25 := ⟨by decide +kernel, rfl⟩
theorem eX8_air_25 : am_d cX8_air 25 (.aload_n 3) 1 26 := ⟨by decide +kernel, rfl⟩
theorem eX8_air_26 : am_d cX8_air 26 (.getfield 102) 3 29 := ⟨by decide +kernel, rfl⟩
theorem eX8_air_29 : am_d cX8_air 29 (.istore 4) 2 31 := ⟨by decide +kernel, rfl⟩
theorem eX8_air_31 : am_d cX8_air 31 (.aload_n 3) 1 32 := ⟨by decide +kernel, rfl⟩
theorem eX8_air_32 : am_d cX8_air 32 (.iload_n 2) 1 33 := ⟨by decide +kernel, rfl⟩
theorem eX8_air_33 : am_d cX8_air 33 (.putfield 102) 3 36 := ⟨by decide +kernel, rfl⟩
theorem eX8_air_36 : am_d cX8_air 36 (.iload 4) 2 38 := ⟨by decide +kernel, rfl⟩
theorem eX8_air_38 : am_d cX8_air 38 (.ireturn) 1 39 := ⟨by decide +kernel, rfl⟩
theorem eX8_tire_0 : am_d cX8_tire 0 (.aload_n 0) 1 1 := ⟨by decide +kernel, rfl⟩
theorem eX8_tire_1 : am_d cX8_tire 1 (.iload_n 1) 1 2 := ⟨by decide +kernel, rfl⟩
theorem eX8_tire_2 : am_d cX8_tire 2 (.invokevirtual 105) 3 5 := ⟨by decide +kernel, rfl⟩
theorem eX8_tire_5 : am_d cX8_tire 5 (.astore_n 3) 1 6 := ⟨by decide +kernel, rfl⟩
theorem eX8_tire_6 : am_d cX8_tire 6 (.iload_n 2) 1 7 := ⟨by decide +kernel, rfl⟩
theorem eX8_tire_7 : am_d cX8_tire 7 (.iconst 0) 1 8 := ⟨by decide +kernel, rfl⟩
theorem eX8_tire_8 : am_d cX8_tire 8 (.sipush 1009) 3 11 := ⟨by decide +kernel, rfl⟩
theorem eX8_tire_11 : am_d cX8_tire 11 (.invokestatic 55) 3 14 := ⟨by decide +kernel, rfl⟩
theorem eX8_tire_14 : am_b cX8_tire 14 (.ifCond .eq 13) (13) 17 27 := ⟨by decide +kernel, rfl, by decide⟩
theorem eX8_tire_17 : am_d cX8_tire 17 (.new 59) 3 20 := ⟨by decide +kernel, rfl⟩
theorem eX8_tire_20 : am_d cX8_tire 20 (.dup) 1 21 := ⟨by decide +kernel, rfl⟩
theorem eX8_tire_21 : am_d cX8_tire 21 (.ldc 109) 2 23 := ⟨by decide +kernel, rfl⟩
theorem eX8_tire_23 : am_d cX8_tire 23 (.invokespecial 63) 3 26 := ⟨by decide +kernel, rfl⟩
theorem eX8_tire_26 : am_d cX8_tire 26 (.athrow) 1 27 := ⟨by decide +kernel, rfl⟩
theorem eX8_tire_27 : am_d cX8_tire 27 (.aload_n 3) 1 28 := ⟨by decide +kernel, rfl⟩
theorem eX8_tire_28 : am_d cX8_tire 28 (.getfield 111) 3 31 := ⟨by decide +kernel, rfl⟩
theorem eX8_tire_31 : am_d cX8_tire 31 (.istore 4) 2 33 := ⟨by decide +kernel, rfl⟩
theorem eX8_tire_33 : am_d cX8_tire 33 (.aload_n 3) 1 34 := ⟨by decide +kernel, rfl⟩
theorem eX8_tire_34 : am_d cX8_tire 34 (.iload_n 2) 1 35 := ⟨by decide +kernel, rfl⟩
theorem eX8_tire_35 : am_d cX8_tire 35 (.putfield 111) 3 38 := ⟨by decide +kernel, rfl⟩
theorem eX8_tire_38 : am_d cX8_tire 38 (.iload 4) 2 40 := ⟨by decide +kernel, rfl⟩
theorem eX8_tire_40 : am_d cX8_tire 40 (.ireturn) 1 41 := ⟨by decide +kernel, rfl⟩
theorem eX8_seed_0 : am_d cX8_seed 0 (.iload_n 1) 1 1 := ⟨by decide +kernel, rfl⟩
theorem eX8_seed_1 : am_d cX8_seed 1 (.iconst 0) 1 2 := ⟨by decide +kernel, rfl⟩
theorem eX8_seed_2 : am_d cX8_seed 2 (.sipush 9999) 3 5 := ⟨by decide +kernel, rfl⟩
theorem eX8_seed_5 : am_d cX8_seed 5 (.invokestatic 55) 3 8 := ⟨by decide +kernel, rfl⟩
theorem eX8_seed_8 : am_b cX8_seed 8 (.ifCond .eq 13) (13) 11 21 := ⟨by decide +kernel, rfl, by decide⟩
theorem eX8_seed_11 : am_d cX8_seed 11 (.new 59) 3 14 := ⟨by decide +kernel, rfl⟩
theorem eX8_seed_14 : am_d cX8_seed 14 (.dup) 1 15 := ⟨by decide +kernel, rfl⟩
theorem eX8_seed_15 : am_d cX8_seed 15 (.ldc 114) 2 17 := ⟨by decide +kernel, rfl⟩
theorem eX8_seed_17 : am_d cX8_seed 17 (.invokespecial 63) 3 20 := ⟨by decide +kernel, rfl⟩
theorem eX8_seed_20 : am_d cX8_seed 20 (.athrow) 1 21 := ⟨by decide +kernel, rfl⟩
theorem eX8_seed_21 : am_d cX8_seed 21 (.aload_n 0) 1 22 := ⟨by decide +kernel, rfl⟩
theorem eX8_seed_22 : am_d cX8_seed 22 (.getfield 116) 3 25 := ⟨by decide +kernel, rfl⟩
theorem eX8_seed_25 : am_d cX8_seed 25 (.istore_n 2) 1 26 := ⟨by decide +kernel, rfl⟩
theorem eX8_seed_26 : am_d cX8_seed 26 (.aload_n 0) 1 27 := ⟨by decide +kernel, rfl⟩
theorem eX8_seed_27 : am_d cX8_seed 27 (.iload_n 1) 1 28 := ⟨by decide +kernel, rfl⟩
theorem eX8_seed_28 : am_d cX8_seed 28 (.putfield 116) 3 31 := ⟨by decide +kernel, rfl⟩
theorem eX8_seed_31 : am_d cX8_seed 31 (.iload_n 2) 1 32 := ⟨by decide +kernel, rfl⟩
theorem eX8_seed_32 : am_d cX8_seed 32 (.ireturn) 1 33 := ⟨by decide +kernel, rfl⟩
theorem eX8_write_0 : am_d cX8_write 0 (.aload_n 0) 1 1 := ⟨by decide +kernel, rfl⟩
theorem eX8_write_1 : am_d cX8_write 1 (.iload_n 1) 1 2 := ⟨by decide +kernel, rfl⟩
theorem eX8_write_2 : am_d cX8_write 2 (.invokevirtual 119) 3 5 := ⟨by decide +kernel, rfl⟩
theorem eX8_write_5 : am_d cX8_write 5 (.astore 5) 2 7 := ⟨by decide +kernel, rfl⟩
theorem eX8_write_7 : am_d cX8_write 7 (.iload_n 2) 1 8 := ⟨by decide +kernel, rfl⟩
theorem eX8_write_8 : am_d cX8_write 8 (.iconst 0) 1 9 := ⟨by decide +kernel, rfl⟩
theorem eX8_write_9 : am_d cX8_write 9 (.bipush 91) 2 11 := ⟨by decide +kernel, rfl⟩
theorem eX8_write_11 : am_d cX8_write 11 (.invokestatic 55) 3 14 := ⟨by decide +kernel, rfl⟩
theorem eX8_write_14 : am_b cX8_write 14 (.ifCond .ne 25) (25) 17 39 := ⟨by decide +kernel, rfl, by decide⟩
theorem eX8_write_17 : am_d cX8_write 17 (.iload_n 3) 1 18 := ⟨by decide +kernel, rfl⟩
theorem eX8_write_18 : am_d cX8_write 18 (.iconst 0) 1 19 := ⟨by decide +kernel, rfl⟩
theorem eX8_write_19 : am_d cX8_write 19 (.bipush 91) 2 21 := ⟨by decide +kernel, rfl⟩
theorem eX8_write_21 : am_d cX8_write 21 (.invokestatic 55) 3 24 := ⟨by decide +kernel, rfl⟩
theorem eX8_write_24 : am_b cX8_write 24 (.ifCond .ne 15) (15) 27 39 := ⟨by decide +kernel, rfl, by decide⟩
theorem eX8_write_27 : am_d cX8_write 27 (.iload 4) 2 29 := ⟨by decide +kernel, rfl⟩
theorem eX8_write_29 : am_d cX8_write 29 (.iconst (-1)) 1 30 := ⟨by decide +kernel, rfl⟩
theorem eX8_write_30 : am_d cX8_write 30 (.sipush 9999) 3 33 := ⟨by decide +kernel, rfl⟩
theorem eX8_write_33 : am_d cX8_write 33 (.invokestatic 55) 3 36 := ⟨by decide +kernel, rfl⟩
theorem eX8_write_36 : am_b cX8_write 36 (.ifCond .eq 13) (13) 39 49 := ⟨by decide +kernel, rfl, by decide⟩
theorem eX8_write_39 : am_d cX8_write 39 (.new 59) 3 42 := ⟨by decide +kernel, rfl⟩
theorem eX8_write_42 : am_d cX8_write 42 (.dup) 1 43 := ⟨by decide +kernel, rfl⟩
theorem eX8_write_43 : am_d cX8_write 43 (.ldc 123) 2 45 := ⟨by decide +kernel, rfl⟩
theorem eX8_write_45 : am_d cX8_write 45 (.invokespecial 63) 3 48 := ⟨by decide +kernel, rfl⟩
theorem eX8_write_48 : am_d cX8_write 48 (.athrow) 1 49 := ⟨by decide +kernel, rfl⟩
theorem eX8_write_49 : am_d cX8_write 49 (.iload_n 2) 1 50 := ⟨by decide +kernel, rfl⟩
theorem eX8_write_50 : am_d cX8_write 50 (.iload_n 3) 1 51 := ⟨by decide +kernel, rfl⟩
theorem eX8_write_51 : am_d cX8_write 51 (.invokestatic 125) 3 54 := ⟨by decide +kernel, rfl⟩
theorem eX8_write_54 : am_d cX8_write 54 (.istore 6) 2 56 := ⟨by decide +kernel, rfl⟩
theorem eX8_write_56 : am_d cX8_write 56 (.aload 5) 2 58 := ⟨by decide +kernel, rfl⟩
theorem eX8_write_58 : am_d cX8_write 58 (.iload 6) 2 60 := ⟨by decide +kernel, rfl⟩
theorem eX8_write_60 : am_d cX8_write 60 (.invokevirtual 129) 3 63 := ⟨by decide +kernel, rfl⟩
theorem eX8_write_63 : am_d cX8_write 63 (.istore 7) 2 65 := ⟨by decide +kernel, rfl⟩
theorem eX8_write_65 : am_d cX8_write 65 (.aload 5) 2 67 := ⟨by decide +kernel, rfl⟩
theorem eX8_write_67 : am_d cX8_write 67 (.iload 6) 2 69 := ⟨by decide +kernel, rfl⟩
theorem eX8_write_69 : am_d cX8_write 69 (.iload 4) 2 71 := ⟨by decide +kernel, rfl⟩
theorem eX8_write_71 : am_d cX8_write 71 (.invokevirtual 133) 3 74 := ⟨by decide +kernel, rfl⟩
theorem eX8_write_74 : am_b cX8_write 74 (.ifCond .ne 13) (13) 77 87 := ⟨by decide +kernel, rfl, by decide⟩
theorem eX8_write_77 : am_d cX8_write 77 (.new 73) 3 80 := ⟨by decide +kernel, rfl⟩
theorem eX8_write_80 : am_d cX8_write 80 (.dup) 1 81 := ⟨by decide +kernel, rfl⟩
theorem eX8_write_81 : am_d cX8_write 81 (.ldc 136) 2 83 := ⟨by decide +kernel, rfl⟩
theorem eX8_write_83 : am_d cX8_write 83 (.invokespecial 77) 3 86 := ⟨by decide +kernel, rfl⟩
theorem eX8_write_86 : am_d cX8_write 86 (.athrow) 1 87 := ⟨by decide +kernel, rfl⟩
theorem eX8_write_87 : am_d cX8_write 87 (.iload 7) 2 89 := ⟨by decide +kernel, rfl⟩
theorem eX8_write_89 : am_d cX8_write 89 (.ireturn) 1 90 := ⟨by decide +kernel, rfl⟩
theorem eX8_type_0 : am_d cX8_type 0 (.iload_n 1) 1 1 := ⟨by decide +kernel, rfl⟩
theorem eX8_type_1 : am_d cX8_type 1 (.iconst 0) 1 2 := ⟨by decide +kernel, rfl⟩
theorem eX8_type_2 : am_d cX8_type 2 (.sipush 9999) 3 5 := ⟨by decide +kernel, rfl⟩
theorem eX8_type_5 : am_d cX8_type 5 (.invokestatic 55) 3 8 := ⟨by decide +kernel, rfl⟩
theorem eX8_type_8 : am_b cX8_type 8 (.ifCond .eq 13) (13) 11 21 := ⟨by decide +kernel, rfl, by decide⟩
theorem eX8_type_11 : am_d cX8_type 11 (.new 59) 3 14 := ⟨by decide +kernel, rfl⟩
theorem eX8_type_14 : am_d cX8_type 14 (.dup) 1 15 := ⟨by decide +kernel, rfl⟩
theorem eX8_type_15 : am_d cX8_type 15 (.ldc 138) 2 17 := ⟨by decide +kernel, rfl⟩
theorem eX8_type_17 : am_d cX8_type 17 (.invokespecial 63) 3 20 := ⟨by decide +kernel, rfl⟩
theorem eX8_type_20 : am_d cX8_type 20 (.athrow) 1 21 := ⟨by decide +kernel, rfl⟩
theorem eX8_type_21 : am_d cX8_type 21 (.aload_n 0) 1 22 := ⟨by decide +kernel, rfl⟩
theorem eX8_type_22 : am_d cX8_type 22 (.getfield 140) 3 25 := ⟨by decide +kernel, rfl⟩
theorem eX8_type_25 : am_d cX8_type 25 (.bipush 12) 2 27 := ⟨by decide +kernel, rfl⟩
theorem eX8_type_27 : am_b cX8_type 27 (.if_icmp .lt 13) (13) 30 40 := ⟨by decide +kernel, rfl, by decide⟩
theorem eX8_type_30 : am_d cX8_type 30 (.new 73) 3 33 := ⟨by decide +kernel, rfl⟩
theorem eX8_type_33 : am_d cX8_type 33 (.dup) 1 34 := ⟨by decide +kernel, rfl⟩
theorem eX8_type_34 : am_d cX8_type 34 (.ldc 143) 2 36 := ⟨by decide +kernel, rfl⟩
theorem eX8_type_36 : am_d cX8_type 36 (.invokespecial 77) 3 39 := ⟨by decide +kernel, rfl⟩
theorem eX8_type_39 : am_d cX8_type 39 (.athrow) 1 40 := ⟨by decide +kernel, rfl⟩
theorem eX8_type_40 : am_d cX8_type 40 (.aload_n 0) 1 41 := ⟨by decide +kernel, rfl⟩
theorem eX8_type_41 : am_d cX8_type 41 (.getfield 32) 3 44 := ⟨by decide +kernel, rfl⟩
theorem eX8_type_44 : am_d cX8_type 44 (.aload_n 0) 1 45 := ⟨by decide +kernel, rfl⟩
theorem eX8_type_45 : am_d cX8_type 45 (.getfield 140) 3 48 := ⟨by decide +kernel, rfl⟩
theorem eX8_type_48 : am_d cX8_type 48 (.iload_n 1) 1 49 := ⟨by decide +kernel, rfl⟩
theorem eX8_type_49 : am_d cX8_type 49 (.iastore) 1 50 := ⟨by decide +kernel, rfl⟩
theorem eX8_type_50 : am_d cX8_type 50 (.aload_n 0) 1 51 := ⟨by decide +kernel, rfl⟩
theorem eX8_type_51 : am_d cX8_type 51 (.dup) 1 52 := ⟨by decide +kernel, rfl⟩
theorem eX8_type_52 : am_d cX8_type 52 (.getfield 140) 3 55 := ⟨by decide +kernel, rfl⟩
theorem eX8_type_55 : am_d cX8_type 55 (.iconst 1) 1 56 := ⟨by decide +kernel, rfl⟩
theorem eX8_type_56 : am_d cX8_type 56 (.iadd) 1 57 := ⟨by decide +kernel, rfl⟩
theorem eX8_type_57 : am_d cX8_type 57 (.putfield 140) 3 60 := ⟨by decide +kernel, rfl⟩
theorem eX8_type_60 : am_d cX8_type 60 (.aload_n 0) 1 61 := ⟨by decide +kernel, rfl⟩
theorem eX8_type_61 : am_d cX8_type 61 (.getfield 140) 3 64 := ⟨by decide +kernel, rfl⟩
theorem eX8_type_64 : am_d cX8_type 64 (.ireturn) 1 65 := ⟨by decide +kernel, rfl⟩
theorem eX8_clear_0 : am_d cX8_clear 0 (.aload_n 0) 1 1 := ⟨by decide +kernel, rfl⟩
theorem eX8_clear_1 : am_d cX8_clear 1 (.getfield 140) 3 4 := ⟨by decide +kernel, rfl⟩
theorem eX8_clear_4 : am_d cX8_clear 4 (.istore_n 1) 1 5 := ⟨by decide +kernel, rfl⟩
theorem eX8_clear_5 : am_d cX8_clear 5 (.aload_n 0) 1 6 := ⟨by decide +kernel, rfl⟩
theorem eX8_clear_6 : am_d cX8_clear 6 (.iconst 0) 1 7 := ⟨by decide +kernel, rfl⟩
theorem eX8_clear_7 : am_d cX8_clear 7 (.putfield 140) 3 10 := ⟨by decide +kernel, rfl⟩
theorem eX8_clear_10 : am_d cX8_clear 10 (.iload_n 1) 1 11 := ⟨by decide +kernel, rfl⟩
theorem eX8_clear_11 : am_d cX8_clear 11 (.ireturn) 1 12 := ⟨by decide +kernel, rfl⟩
theorem eX8_send_0 : am_d cX8_send 0 (.aload_n 0) 1 1 := ⟨by decide +kernel, rfl⟩
theorem eX8_send_1 : am_d cX8_send 1 (.iload_n 2) 1 2 := ⟨by decide +kernel, rfl⟩
theorem eX8_send_2 : am_d cX8_send 2 (.invokevirtual 119) 3 5 := ⟨by decide +kernel, rfl⟩
theorem eX8_send_5 : am_d cX8_send 5 (.astore 4) 2 7 := ⟨by decide +kernel, rfl⟩
theorem eX8_send_7 : am_d cX8_send 7 (.aload_n 0) 1 8 := ⟨by decide +kernel, rfl⟩
theorem eX8_send_8 : am_d cX8_send 8 (.getfield 66) 3 11 := ⟨by decide +kernel, rfl⟩
theorem eX8_send_11 : am_d cX8_send 11 (.iconst 2) 1 12 := ⟨by decide +kernel, rfl⟩
theorem eX8_send_12 : am_b cX8_send 12 (.if_icmp .lt 10) (10) 15 22 := ⟨by decide +kernel, rfl, by decide⟩
theorem eX8_send_15 : am_d cX8_send 15 (.aload_n 0) 1 16 := ⟨by decide +kernel, rfl⟩
theorem eX8_send_16 : am_d cX8_send 16 (.getfield 140) 3 19 := ⟨by decide +kernel, rfl⟩
theorem eX8_send_19 : am_b cX8_send 19 (.ifCond .ne 13) (13) 22 32 := ⟨by decide +kernel, rfl, by decide⟩
theorem eX8_send_22 : am_d cX8_send 22 (.new 73) 3 25 := ⟨by decide +kernel, rfl⟩
theorem eX8_send_25 : am_d cX8_send 25 (.dup) 1 26 := ⟨by decide +kernel, rfl⟩
theorem eX8_send_26 : am_d cX8_send 26 (.ldc 145) 2 28 := ⟨by decide +kernel, rfl⟩
theorem eX8_send_28 : am_d cX8_send 28 (.invokespecial 77) 3 31 := ⟨by decide +kernel, rfl⟩
theorem eX8_send_31 : am_d cX8_send 31 (.athrow) 1 32 := ⟨by decide +kernel, rfl⟩
theorem eX8_send_32 : am_d cX8_send 32 (.aload_n 0) 1 33 := ⟨by decide +kernel, rfl⟩
theorem eX8_send_33 : am_d cX8_send 33 (.aload 4) 2 35 := ⟨by decide +kernel, rfl⟩
theorem eX8_send_35 : am_d cX8_send 35 (.iload_n 3) 1 36 := ⟨by decide +kernel, rfl⟩
theorem eX8_send_36 : am_d cX8_send 36 (.invokevirtual 147) 3 39 := ⟨by decide +kernel, rfl⟩
theorem eX8_send_39 : am_d cX8_send 39 (.istore 5) 2 41 := ⟨by decide +kernel, rfl⟩
theorem eX8_send_41 : am_d cX8_send 41 (.iload 5) 2 43 := ⟨by decide +kernel, rfl⟩
theorem eX8_send_43 : am_d cX8_send 43 (.iconst (-1)) 1 44 := ⟨by decide +kernel, rfl⟩
theorem eX8_send_44 : am_b cX8_send 44 (.if_icmp .ne 13) (13) 47 57 := ⟨by decide +kernel, rfl, by decide⟩
theorem eX8_send_47 : am_d cX8_send 47 (.new 73) 3 50 := ⟨by decide +kernel, rfl⟩
theorem eX8_send_50 : am_d cX8_send 50 (.dup) 1 51 := ⟨by decide +kernel, rfl⟩
theorem eX8_send_51 : am_d cX8_send 51 (.ldc 151) 2 53 := ⟨by decide +kernel, rfl⟩
theorem eX8_send_53 : am_d cX8_send 53 (.invokespecial 77) 3 56 := ⟨by decide +kernel, rfl⟩
theorem eX8_send_56 : am_d cX8_send 56 (.athrow) 1 57 := ⟨by decide +kernel, rfl⟩
theorem eX8_send_57 : am_d cX8_send 57 (.iload_n 1) 1 58 := ⟨by decide +kernel, rfl⟩
theorem eX8_send_58 : am_b cX8_send 58 (.ifCond .eq 20) (20) 61 78 := ⟨by decide +kernel, rfl, by decide⟩
theorem eX8_send_61 : am_d cX8_send 61 (.aload_n 0) 1 62 := ⟨by decide +kernel, rfl⟩
theorem eX8_send_62 : am_d cX8_send 62 (.getfield 11) 3 65 := ⟨by decide +kernel, rfl⟩
theorem eX8_send_65 : am_d cX8_send 65 (.aload_n 0) 1 66 := ⟨by decide +kernel, rfl⟩
theorem eX8_send_66 : am_d cX8_send 66 (.getfield 66) 3 69 := ⟨by decide +kernel, rfl⟩
theorem eX8_send_69 : am_d cX8_send 69 (.iconst 1) 1 70 := ⟨by decide +kernel, rfl⟩
theorem eX8_send_70 : am_d cX8_send 70 (.isub) 1 71 := ⟨by decide +kernel, rfl⟩
theorem eX8_send_71 : am_d cX8_send 71 (.aaload) 1 72 := ⟨by decide +kernel, rfl⟩
theorem eX8_send_72 : am_d cX8_send 72 (.getfield 153) 3 75 := ⟨by decide +kernel, rfl⟩
theorem eX8_send_75 : am_b cX8_send 75 (.goto 12) (12) 78 87 := ⟨by decide +kernel, rfl, by decide⟩
theorem eX8_send_78 : am_d cX8_send 78 (.aload_n 0) 1 79 := ⟨by decide +kernel, rfl⟩
theorem eX8_send_79 : am_d cX8_send 79 (.getfield 11) 3 82 := ⟨by decide +kernel, rfl⟩
theorem eX8_send_82 : am_d cX8_send 82 (.iconst 0) 1 83 := ⟨by decide +kernel, rfl⟩
theorem eX8_send_83 : am_d cX8_send 83 (.aaload) 1 84 := ⟨by decide +kernel, rfl⟩
theorem eX8_send_84 : am_d cX8_send 84 (.getfield 157) 3 87 := ⟨by decide +kernel, rfl⟩
theorem eX8_send_87 : am_d cX8_send 87 (.astore 6) 2 89 := ⟨by decide +kernel, rfl⟩
theorem eX8_send_89 : am_d cX8_send 89 (.aload 6) 2 91 := ⟨by decide +kernel, rfl⟩
theorem eX8_send_91 : am_d cX8_send 91 (.aload_n 0) 1 92 := ⟨by decide +kernel, rfl⟩
theorem eX8_send_92 : am_d cX8_send 92 (.getfield 36) 3 95 := ⟨by decide +kernel, rfl⟩
theorem eX8_send_95 : am_d cX8_send 95 (.iload 5) 2 97 := ⟨by decide +kernel, rfl⟩
theorem eX8_send_97 : am_d cX8_send 97 (.iload_n 3) 1 98 := ⟨by decide +kernel, rfl⟩
theorem eX8_send_98 : am_d cX8_send 98 (.invokevirtual 160) 3 101 := ⟨by decide +kernel, rfl⟩
theorem eX8_send_101 : am_b cX8_send 101 (.ifCond .ne 13) (13) 104 114 := ⟨by decide +kernel, rfl, by decide⟩
theorem eX8_send_104 : am_d cX8_send 104 (.new 73) 3 107 := ⟨by decide +kernel, rfl⟩
theorem eX8_send_107 : am_d cX8_send 107 (.dup) 1 108 := ⟨by decide +kernel, rfl⟩
theorem eX8_send_108 : am_d cX8_send 108 (.ldc 166) 2 110 := ⟨by decide +kernel, rfl⟩
theorem eX8_send_110 : am_d cX8_send 110 (.invokespecial 77) 3 113 := ⟨by decide +kernel, rfl⟩
theorem eX8_send_113 : am_d cX8_send 113 (.athrow) 1 114 := ⟨by decide +kernel, rfl⟩
theorem eX8_send_114 : am_d cX8_send 114 (.aload_n 0) 1 115 := ⟨by decide +kernel, rfl⟩
theorem eX8_send_115 : am_d cX8_send 115 (.iconst 1) 1 116 := ⟨by decide +kernel, rfl⟩
theorem eX8_send_116 : am_d cX8_send 116 (.putfield 69) 3 119 := ⟨by decide +kernel, rfl⟩
theorem eX8_send_119 : am_d cX8_send 119 (.aload 6) 2 121 := ⟨by decide +kernel, rfl⟩
theorem eX8_send_121 : am_d cX8_send 121 (.getfield 168) 3 124 := ⟨by decide +kernel, rfl⟩
theorem eX8_send_124 : am_d cX8_send 124 (.ireturn) 1 125 := ⟨by decide +kernel, rfl⟩
theorem eX8_mark_0 : am_d cX8_mark 0 (.aload_n 0) 1 1 := ⟨by decide +kernel, rfl⟩
theorem eX8_mark_1 : am_d cX8_mark 1 (.iload_n 1) 1 2 := ⟨by decide +kernel, rfl⟩
theorem eX8_mark_2 : am_d cX8_mark 2 (.invokevirtual 105) 3 5 := ⟨by decide +kernel, rfl⟩
theorem eX8_mark_5 : am_d cX8_mark 5 (.iload_n 2) 1 6 := ⟨by decide +kernel, rfl⟩
theorem eX8_mark_6 : am_d cX8_mark 6 (.invokevirtual 171) 3 9 := ⟨by decide +kernel, rfl⟩
theorem eX8_mark_9 : am_d cX8_mark 9 (.astore 4) 2 11 := ⟨by decide +kernel, rfl⟩
theorem eX8_mark_11 : am_d cX8_mark 11 (.iload_n 3) 1 12 := ⟨by decide +kernel, rfl⟩
theorem eX8_mark_12 : am_b cX8_mark 12 (.ifCond .eq 8) (8) 15 20 := ⟨by decide +kernel, rfl, by decide⟩
theorem eX8_mark_15 : am_d cX8_mark 15 (.bipush 94) 2 17 := ⟨by decide +kernel, rfl⟩
theorem eX8_mark_17 : am_b cX8_mark 17 (.goto 5) (5) 20 22 := ⟨by decide +kernel, rfl, by decide⟩
theorem eX8_mark_20 : am_d cX8_mark 20 (.bipush 95) 2 22 := ⟨by decide +kernel, rfl⟩
theorem eX8_mark_22 : am_d cX8_mark 22 (.istore 5) 2 24 := ⟨by decide +kernel, rfl⟩
theorem eX8_mark_24 : am_d cX8_mark 24 (.aload_n 0) 1 25 := ⟨by decide +kernel, rfl⟩
theorem eX8_mark_25 : am_d cX8_mark 25 (.iload_n 1) 1 26 := ⟨by decide +kernel, rfl⟩
theorem eX8_mark_26 : am_d cX8_mark 26 (.iload_n 2) 1 27 := ⟨by decide +kernel, rfl⟩
theorem eX8_mark_27 : am_d cX8_mark 27 (.invokevirtual 175) 3 30 := ⟨by decide +kernel, rfl⟩
theorem eX8_mark_30 : am_b cX8_mark 30 (.ifCond .ne 13) (13) 33 43 := ⟨by decide +kernel, rfl, by decide⟩
theorem eX8_mark_33 : am_d cX8_mark 33 (.aload 4) 2 35 := ⟨by decide +kernel, rfl⟩
theorem eX8_mark_35 : am_d cX8_mark 35 (.iload 5) 2 37 := ⟨by decide +kernel, rfl⟩
theorem eX8_mark_37 : am_d cX8_mark 37 (.invokevirtual 179) 3 40 := ⟨by decide +kernel, rfl⟩
theorem eX8_mark_40 : am_b cX8_mark 40 (.ifCond .ne 13) (13) 43 53 := ⟨by decide +kernel, rfl, by decide⟩
theorem eX8_mark_43 : am_d cX8_mark 43 (.new 73) 3 46 := ⟨by decide +kernel, rfl⟩
theorem eX8_mark_46 : am_d cX8_mark 46 (.dup) 1 47 := ⟨by decide +kernel, rfl⟩
theorem eX8_mark_47 : am_d cX8_mark 47 (.ldc 183) 2 49 := ⟨by decide +kernel, rfl⟩
theorem eX8_mark_49 : am_d cX8_mark 49 (.invokespecial 77) 3 52 := ⟨by decide +kernel, rfl⟩
theorem eX8_mark_52 : am_d cX8_mark 52 (.athrow) 1 53 := ⟨by decide +kernel, rfl⟩
theorem eX8_mark_53 : am_d cX8_mark 53 (.aload 4) 2 55 := ⟨by decide +kernel, rfl⟩
theorem eX8_mark_55 : am_d cX8_mark 55 (.getfield 185) 3 58 := ⟨by decide +kernel, rfl⟩
theorem eX8_mark_58 : am_d cX8_mark 58 (.aload_n 0) 1 59 := ⟨by decide +kernel, rfl⟩
theorem eX8_mark_59 : am_d cX8_mark 59 (.getfield 21) 3 62 := ⟨by decide +kernel, rfl⟩
theorem eX8_mark_62 : am_d cX8_mark 62 (.iload 5) 2 64 := ⟨by decide +kernel, rfl⟩
theorem eX8_mark_64 : am_d cX8_mark 64 (.iconst 1) 1 65 := ⟨by decide +kernel, rfl⟩
theorem eX8_mark_65 : am_d cX8_mark 65 (.invokevirtual 189) 3 68 := ⟨by decide +kernel, rfl⟩
theorem eX8_mark_68 : am_d cX8_mark 68 (.aload_n 0) 1 69 := ⟨by decide +kernel, rfl⟩
theorem eX8_mark_69 : am_d cX8_mark 69 (.iconst 1) 1 70 := ⟨by decide +kernel, rfl⟩
theorem eX8_mark_70 : am_d cX8_mark 70 (.putfield 69) 3 73 := ⟨by decide +kernel, rfl⟩
theorem eX8_mark_73 : am_d cX8_mark 73 (.aload 4) 2 75 := ⟨by decide +kernel, rfl⟩
theorem eX8_mark_75 : am_d cX8_mark 75 (.getfield 168) 3 78 := ⟨by decide +kernel, rfl⟩
theorem eX8_mark_78 : am_d cX8_mark 78 (.ireturn) 1 79 := ⟨by decide +kernel, rfl⟩
theorem eX8_spy_0 : am_d cX8_spy 0 (.aload_n 0) 1 1 := ⟨by decide +kernel, rfl⟩
theorem eX8_spy_1 : am_d cX8_spy 1 (.iload_n 1) 1 2 := ⟨by decide +kernel, rfl⟩
theorem eX8_spy_2 : am_d cX8_spy 2 (.invokevirtual 105) 3 5 := ⟨by decide +kernel, rfl⟩
theorem eX8_spy_5 : am_d cX8_spy 5 (.pop) 1 6 := ⟨by decide +kernel, rfl⟩
theorem eX8_spy_6 : am_d cX8_spy 6 (.aload_n 0) 1 7 := ⟨by decide +kernel, rfl⟩
theorem eX8_spy_7 : am_d cX8_spy 7 (.getfield 195) 3 10 := ⟨by decide +kernel, rfl⟩
theorem eX8_spy_10 : am_d cX8_spy 10 (.bipush 6) 2 12 := ⟨by decide +kernel, rfl⟩
theorem eX8_spy_12 : am_b cX8_spy 12 (.if_icmp .ge 13) (13) 15 25 := ⟨by decide +kernel, rfl, by decide⟩
theorem eX8_spy_15 : am_d cX8_spy 15 (.iload_n 1) 1 16 := ⟨by decide +kernel, rfl⟩
theorem eX8_spy_16 : am_d cX8_spy 16 (.aload_n 0) 1 17 := ⟨by decide +kernel, rfl⟩
theorem eX8_spy_17 : am_d cX8_spy 17 (.getfield 66) 3 20 := ⟨by decide +kernel, rfl⟩
theorem eX8_spy_20 : am_d cX8_spy 20 (.iconst 1) 1 21 := ⟨by decide +kernel, rfl⟩
theorem eX8_spy_21 : am_d cX8_spy 21 (.isub) 1 22 := ⟨by decide +kernel, rfl⟩
theorem eX8_spy_22 : am_b cX8_spy 22 (.if_icmp .ne 13) (13) 25 35 := ⟨by decide +kernel, rfl, by decide⟩
theorem eX8_spy_25 : am_d cX8_spy 25 (.new 73) 3 28 := ⟨by decide +kernel, rfl⟩
theorem eX8_spy_28 : am_d cX8_spy 28 (.dup) 1 29 := ⟨by decide +kernel, rfl⟩
theorem eX8_spy_29 : am_d cX8_spy 29 (.ldc 198) 2 31 := ⟨by decide +kernel, rfl⟩
theorem eX8_spy_31 : am_d cX8_spy 31 (.invokespecial 77) 3 34 := ⟨by decide +kernel, rfl⟩
theorem eX8_spy_34 : am_d cX8_spy 34 (.athrow) 1 35 := ⟨by decide +kernel, rfl⟩
theorem eX8_spy_35 : am_d cX8_spy 35 (.aload_n 0) 1 36 := ⟨by decide +kernel, rfl⟩
theorem eX8_spy_36 : am_d cX8_spy 36 (.getfield 51) 3 39 := ⟨by decide +kernel, rfl⟩
theorem eX8_spy_39 : am_d cX8_spy 39 (.aload_n 0) 1 40 := ⟨by decide +kernel, rfl⟩
theorem eX8_spy_40 : am_d cX8_spy 40 (.getfield 195) 3 43 := ⟨by decide +kernel, rfl⟩
theorem eX8_spy_43 : am_d cX8_spy 43 (.new 49) 3 46 := ⟨by decide +kernel, rfl⟩
theorem eX8_spy_46 : am_d cX8_spy 46 (.dup) 1 47 := ⟨by decide +kernel, rfl⟩
theorem eX8_spy_47 : am_d cX8_spy 47 (.iload_n 1) 1 48 := ⟨by decide +kernel, rfl⟩
theorem eX8_spy_48 : am_d cX8_spy 48 (.invokespecial 200) 3 51 := ⟨by decide +kernel, rfl⟩
theorem eX8_spy_51 : am_d cX8_spy 51 (.aastore) 1 52 := ⟨by decide +kernel, rfl⟩
theorem eX8_spy_52 : am_d cX8_spy 52 (.aload_n 0) 1 53 := ⟨by decide +kernel, rfl⟩
theorem eX8_spy_53 : am_d cX8_spy 53 (.dup) 1 54 := ⟨by decide +kernel, rfl⟩
theorem eX8_spy_54 : am_d cX8_spy 54 (.getfield 195) 3 57 := ⟨by decide +kernel, rfl⟩
theorem eX8_spy_57 : am_d cX8_spy 57 (.iconst 1) 1 58 := ⟨by decide +kernel, rfl⟩
theorem eX8_spy_58 : am_d cX8_spy 58 (.iadd) 1 59 := ⟨by decide +kernel, rfl⟩
theorem eX8_spy_59 : am_d cX8_spy 59 (.putfield 195) 3 62 := ⟨by decide +kernel, rfl⟩
theorem eX8_spy_62 : am_d cX8_spy 62 (.aload_n 0) 1 63 := ⟨by decide +kernel, rfl⟩
theorem eX8_spy_63 : am_d cX8_spy 63 (.getfield 195) 3 66 := ⟨by decide +kernel, rfl⟩
theorem eX8_spy_66 : am_d cX8_spy 66 (.iconst 1) 1 67 := ⟨by decide +kernel, rfl⟩
theorem eX8_spy_67 : am_d cX8_spy 67 (.isub) 1 68 := ⟨by decide +kernel, rfl⟩
theorem eX8_spy_68 : am_d cX8_spy 68 (.ireturn) 1 69 := ⟨by decide +kernel, rfl⟩
theorem eX8_pass_0 : am_d cX8_pass 0 (.iload_n 1) 1 1 := ⟨by decide +kernel, rfl⟩
theorem eX8_pass_1 : am_d cX8_pass 1 (.iconst 1) 1 2 := ⟨by decide +kernel, rfl⟩
theorem eX8_pass_2 : am_d cX8_pass 2 (.sipush 200) 3 5 := ⟨by decide +kernel, rfl⟩
theorem eX8_pass_5 : am_d cX8_pass 5 (.invokestatic 55) 3 8 := ⟨by decide +kernel, rfl⟩
theorem eX8_pass_8 : am_b cX8_pass 8 (.ifCond .eq 13) (13) 11 21 := ⟨by decide +kernel, rfl, by decide⟩
theorem eX8_pass_11 : am_d cX8_pass 11 (.new 59) 3 14 := ⟨by decide +kernel, rfl⟩
theorem eX8_pass_14 : am_d cX8_pass 14 (.dup) 1 15 := ⟨by decide +kernel, rfl⟩
theorem eX8_pass_15 : am_d cX8_pass 15 (.ldc 201) 2 17 := ⟨by decide +kernel, rfl⟩
theorem eX8_pass_17 : am_d cX8_pass 17 (.invokespecial 63) 3 20 := ⟨by decide +kernel, rfl⟩
theorem eX8_pass_20 : am_d cX8_pass 20 (.athrow) 1 21 := ⟨by decide +kernel, rfl⟩
theorem eX8_pass_21 : am_d cX8_pass 21 (.aload_n 0) 1 22 := ⟨by decide +kernel, rfl⟩
theorem eX8_pass_22 : am_d cX8_pass 22 (.iconst 1) 1 23 := ⟨by decide +kernel, rfl⟩
theorem eX8_pass_23 : am_d cX8_pass 23 (.putfield 69) 3 26 := ⟨by decide +kernel, rfl⟩
theorem eX8_pass_26 : am_d cX8_pass 26 (.iconst 0) 1 27 := ⟨by decide +kernel, rfl⟩
theorem eX8_pass_27 : am_d cX8_pass 27 (.istore_n 2) 1 28 := ⟨by decide +kernel, rfl⟩
theorem eX8_pass_28 : am_d cX8_pass 28 (.iload_n 2) 1 29 := ⟨by decide +kernel, rfl⟩
theorem eX8_pass_29 : am_d cX8_pass 29 (.iload_n 1) 1 30 := ⟨by decide +kernel, rfl⟩
theorem eX8_pass_30 : am_b cX8_pass 30 (.if_icmp .ge 13) (13) 33 43 := ⟨by decide +kernel, rfl, by decide⟩
theorem eX8_pass_33 : am_d cX8_pass 33 (.aload_n 0) 1 34 := ⟨by decide +kernel, rfl⟩
theorem eX8_pass_34 : am_d cX8_pass 34 (.invokevirtual 203) 3 37 := ⟨by decide +kernel, rfl⟩
theorem eX8_pass_37 : am_d cX8_pass 37 (.iinc 2 1) 3 40 := ⟨by decide +kernel, rfl⟩
theorem eX8_pass_40 : am_b cX8_pass 40 (.goto (-12)) (-12) 43 28 := ⟨by decide +kernel, rfl, by decide⟩
theorem eX8_pass_43 : am_d cX8_pass 43 (.aload_n 0) 1 44 := ⟨by decide +kernel, rfl⟩
theorem eX8_pass_44 : am_d cX8_pass 44 (.getfield 21) 3 47 := ⟨by decide +kernel, rfl⟩
theorem eX8_pass_47 : am_d cX8_pass 47 (.ireturn) 1 48 := ⟨by decide +kernel, rfl⟩
theorem eX8_minute_0 : am_d cX8_minute 0 (.aload_n 0) 1 1 := ⟨by decide +kernel, rfl⟩
theorem eX8_minute_1 : am_d cX8_minute 1 (.getfield 21) 3 4 := ⟨by decide +kernel, rfl⟩
theorem eX8_minute_4 : am_d cX8_minute 4 (.ireturn) 1 5 := ⟨by decide +kernel, rfl⟩
theorem eX8_towers_0 : am_d cX8_towers 0 (.aload_n 0) 1 1 := ⟨by decide +kernel, rfl⟩
theorem eX8_towers_1 : am_d cX8_towers 1 (.getfield 66) 3 4 := ⟨by decide +kernel, rfl⟩
theorem eX8_towers_4 : am_d cX8_towers 4 (.ireturn) 1 5 := ⟨by decide +kernel, rfl⟩
theorem eX8_sees_0 : am_d cX8_sees 0 (.aload_n 0) 1 1 := ⟨by decide +kernel, rfl⟩
theorem eX8_sees_1 : am_d cX8_sees 1 (.iload_n 1) 1 2 := ⟨by decide +kernel, rfl⟩
theorem eX8_sees_2 : am_d cX8_sees 2 (.invokevirtual 82) 3 5 := ⟨by decide +kernel, rfl⟩
theorem eX8_sees_5 : am_d cX8_sees 5 (.pop) 1 6 := ⟨by decide +kernel, rfl⟩
theorem eX8_sees_6 : am_d cX8_sees 6 (.aload_n 0) 1 7 := ⟨by decide +kernel, rfl⟩
theorem eX8_sees_7 : am_d cX8_sees 7 (.iload_n 1) 1 8 := ⟨by decide +kernel, rfl⟩
theorem eX8_sees_8 : am_d cX8_sees 8 (.invokevirtual 206) 3 11 := ⟨by decide +kernel, rfl⟩
theorem eX8_sees_11 : am_d cX8_sees 11 (.ireturn) 1 12 := ⟨by decide +kernel, rfl⟩
theorem eX8_shows_0 : am_d cX8_shows 0 (.aload_n 0) 1 1 := ⟨by decide +kernel, rfl⟩
theorem eX8_shows_1 : am_d cX8_shows 1 (.iload_n 1) 1 2 := ⟨by decide +kernel, rfl⟩
theorem eX8_shows_2 : am_d cX8_shows 2 (.invokevirtual 105) 3 5 := ⟨by decide +kernel, rfl⟩
theorem eX8_shows_5 : am_d cX8_shows 5 (.iload_n 2) 1 6 := ⟨by decide +kernel, rfl⟩
theorem eX8_shows_6 : am_d cX8_shows 6 (.invokevirtual 171) 3 9 := ⟨by decide +kernel, rfl⟩
theorem eX8_shows_9 : am_d cX8_shows 9 (.getfield 209) 3 12 := ⟨by decide +kernel, rfl⟩
theorem eX8_shows_12 : am_d cX8_shows 12 (.ireturn) 1 13 := ⟨by decide +kernel, rfl⟩
theorem eX8_keeps_0 : am_d cX8_keeps 0 (.aload_n 0) 1 1 := ⟨by decide +kernel, rfl⟩
theorem eX8_keeps_1 : am_d cX8_keeps 1 (.iload_n 1) 1 2 := ⟨by decide +kernel, rfl⟩
theorem eX8_keeps_2 : am_d cX8_keeps 2 (.invokevirtual 105) 3 5 := ⟨by decide +kernel, rfl⟩
theorem eX8_keeps_5 : am_d cX8_keeps 5 (.iload_n 2) 1 6 := ⟨by decide +kernel, rfl⟩
theorem eX8_keeps_6 : am_d cX8_keeps 6 (.invokevirtual 171) 3 9 := ⟨by decide +kernel, rfl⟩
theorem eX8_keeps_9 : am_d cX8_keeps 9 (.astore 4) 2 11 := ⟨by decide +kernel, rfl⟩
theorem eX8_keeps_11 : am_d cX8_keeps 11 (.iload_n 3) 1 12 := ⟨by decide +kernel, rfl⟩
theorem eX8_keeps_12 : am_b cX8_keeps 12 (.ifCond .ge 13) (13) 15 25 := ⟨by decide +kernel, rfl, by decide⟩
theorem eX8_keeps_15 : am_d cX8_keeps 15 (.new 212) 3 18 := ⟨by decide +kernel, rfl⟩
theorem eX8_keeps_18 : am_d cX8_keeps 18 (.dup) 1 19 := ⟨by decide +kernel, rfl⟩
theorem eX8_keeps_19 : am_d cX8_keeps 19 (.ldc 214) 2 21 := ⟨by decide +kernel, rfl⟩
theorem eX8_keeps_21 : am_d cX8_keeps 21 (.invokespecial 216) 3 24 := ⟨by decide +kernel, rfl⟩
theorem eX8_keeps_24 : am_d cX8_keeps 24 (.athrow) 1 25 := ⟨by decide +kernel, rfl⟩
theorem eX8_keeps_25 : am_d cX8_keeps 25 (.iload_n 3) 1 26 := ⟨by decide +kernel, rfl⟩
theorem eX8_keeps_26 : am_d cX8_keeps 26 (.aload 4) 2 28 := ⟨by decide +kernel, rfl⟩
theorem eX8_keeps_28 : am_d cX8_keeps 28 (.getfield 168) 3 31 := ⟨by decide +kernel, rfl⟩
theorem eX8_keeps_31 : am_b cX8_keeps 31 (.if_icmp .ge 13) (13) 34 44 := ⟨by decide +kernel, rfl, by decide⟩
theorem eX8_keeps_34 : am_d cX8_keeps 34 (.aload 4) 2 36 := ⟨by decide +kernel, rfl⟩
theorem eX8_keeps_36 : am_d cX8_keeps 36 (.getfield 217) 3 39 := ⟨by decide +kernel, rfl⟩
theorem eX8_keeps_39 : am_d cX8_keeps 39 (.iload_n 3) 1 40 := ⟨by decide +kernel, rfl⟩
theorem eX8_keeps_40 : am_d cX8_keeps 40 (.iaload) 1 41 := ⟨by decide +kernel, rfl⟩
theorem eX8_keeps_41 : am_b cX8_keeps 41 (.goto 4) (4) 44 45 := ⟨by decide +kernel, rfl, by decide⟩
theorem eX8_keeps_44 : am_d cX8_keeps 44 (.iconst (-1)) 1 45 := ⟨by decide +kernel, rfl⟩
theorem eX8_keeps_45 : am_d cX8_keeps 45 (.ireturn) 1 46 := ⟨by decide +kernel, rfl⟩
theorem eX8_logs_0 : am_d cX8_logs 0 (.aload_n 0) 1 1 := ⟨by decide +kernel, rfl⟩
theorem eX8_logs_1 : am_d cX8_logs 1 (.iload_n 1) 1 2 := ⟨by decide +kernel, rfl⟩
theorem eX8_logs_2 : am_d cX8_logs 2 (.invokevirtual 105) 3 5 := ⟨by decide +kernel, rfl⟩
theorem eX8_logs_5 : am_d cX8_logs 5 (.iload_n 2) 1 6 := ⟨by decide +kernel, rfl⟩
theorem eX8_logs_6 : am_d cX8_logs 6 (.invokevirtual 171) 3 9 := ⟨by decide +kernel, rfl⟩
theorem eX8_logs_9 : am_d cX8_logs 9 (.getfield 185) 3 12 := ⟨by decide +kernel, rfl⟩
theorem eX8_logs_12 : am_d cX8_logs 12 (.getfield 220) 3 15 := ⟨by decide +kernel, rfl⟩
theorem eX8_logs_15 : am_d cX8_logs 15 (.ireturn) 1 16 := ⟨by decide +kernel, rfl⟩
theorem eX8_log_0 : am_d cX8_log 0 (.aload_n 0) 1 1 := ⟨by decide +kernel, rfl⟩
theorem eX8_log_1 : am_d cX8_log 1 (.iload_n 1) 1 2 := ⟨by decide +kernel, rfl⟩
theorem eX8_log_2 : am_d cX8_log 2 (.invokevirtual 105) 3 5 := ⟨by decide +kernel, rfl⟩
theorem eX8_log_5 : am_d cX8_log 5 (.iload_n 2) 1 6 := ⟨by decide +kernel, rfl⟩
theorem eX8_log_6 : am_d cX8_log 6 (.invokevirtual 171) 3 9 := ⟨by decide +kernel, rfl⟩
theorem eX8_log_9 : am_d cX8_log 9 (.getfield 185) 3 12 := ⟨by decide +kernel, rfl⟩
theorem eX8_log_12 : am_d cX8_log 12 (.astore 5) 2 14 := ⟨by decide +kernel, rfl⟩
theorem eX8_log_14 : am_d cX8_log 14 (.iload_n 3) 1 15 := ⟨by decide +kernel, rfl⟩
theorem eX8_log_15 : am_b cX8_log 15 (.ifCond .ge 13) (13) 18 28 := ⟨by decide +kernel, rfl, by decide⟩
theorem eX8_log_18 : am_d cX8_log 18 (.new 212) 3 21 := ⟨by decide +kernel, rfl⟩
theorem eX8_log_21 : am_d cX8_log 21 (.dup) 1 22 := ⟨by decide +kernel, rfl⟩
theorem eX8_log_22 : am_d cX8_log 22 (.ldc 221) 2 24 := ⟨by decide +kernel, rfl⟩
theorem eX8_log_24 : am_d cX8_log 24 (.invokespecial 216) 3 27 := ⟨by decide +kernel, rfl⟩
theorem eX8_log_27 : am_d cX8_log 27 (.athrow) 1 28 := ⟨by decide +kernel, rfl⟩
theorem eX8_log_28 : am_d cX8_log 28 (.iload 4) 2 30 := ⟨by decide +kernel, rfl⟩
theorem eX8_log_30 : am_d cX8_log 30 (.iconst 0) 1 31 := ⟨by decide +kernel, rfl⟩
theorem eX8_log_31 : am_d cX8_log 31 (.iconst 2) 1 32 := ⟨by decide +kernel, rfl⟩
theorem eX8_log_32 : am_d cX8_log 32 (.invokestatic 55) 3 35 := ⟨by decide +kernel, rfl⟩
theorem eX8_log_35 : am_b cX8_log 35 (.ifCond .eq 13) (13) 38 48 := ⟨by decide +kernel, rfl, by decide⟩
theorem eX8_log_38 : am_d cX8_log 38 (.new 59) 3 41 := ⟨by decide +kernel, rfl⟩
theorem eX8_log_41 : am_d cX8_log 41 (.dup) 1 42 := ⟨by decide +kernel, rfl⟩
theorem eX8_log_42 : am_d cX8_log 42 (.ldc 223) 2 44 := ⟨by decide +kernel, rfl⟩
theorem eX8_log_44 : am_d cX8_log 44 (.invokespecial 63) 3 47 := ⟨by decide +kernel, rfl⟩
theorem eX8_log_47 : am_d cX8_log 47 (.athrow) 1 48 := ⟨by decide +kernel, rfl⟩
theorem eX8_log_48 : am_d cX8_log 48 (.iload_n 3) 1 49 := ⟨by decide +kernel, rfl⟩
theorem eX8_log_49 : am_d cX8_log 49 (.aload 5) 2 51 := ⟨by decide +kernel, rfl⟩
theorem eX8_log_51 : am_d cX8_log 51 (.getfield 220) 3 54 := ⟨by decide +kernel, rfl⟩
theorem eX8_log_54 : am_b cX8_log 54 (.if_icmp .ge 14) (14) 57 68 := ⟨by decide +kernel, rfl, by decide⟩
theorem eX8_log_57 : am_d cX8_log 57 (.aload 5) 2 59 := ⟨by decide +kernel, rfl⟩
theorem eX8_log_59 : am_d cX8_log 59 (.iload_n 3) 1 60 := ⟨by decide +kernel, rfl⟩
theorem eX8_log_60 : am_d cX8_log 60 (.iload 4) 2 62 := ⟨by decide +kernel, rfl⟩
theorem eX8_log_62 : am_d cX8_log 62 (.invokevirtual 225) 3 65 := ⟨by decide +kernel, rfl⟩
theorem eX8_log_65 : am_b cX8_log 65 (.goto 4) (4) 68 69 := ⟨by decide +kernel, rfl, by decide⟩
theorem eX8_log_68 : am_d cX8_log 68 (.iconst (-1)) 1 69 := ⟨by decide +kernel, rfl⟩
theorem eX8_log_69 : am_d cX8_log 69 (.ireturn) 1 70 := ⟨by decide +kernel, rfl⟩
theorem eX8_differs_0 : am_d cX8_differs 0 (.aload_n 0) 1 1 := ⟨by decide +kernel, rfl⟩
theorem eX8_differs_1 : am_d cX8_differs 1 (.iload_n 1) 1 2 := ⟨by decide +kernel, rfl⟩
theorem eX8_differs_2 : am_d cX8_differs 2 (.invokevirtual 105) 3 5 := ⟨by decide +kernel, rfl⟩
theorem eX8_differs_5 : am_d cX8_differs 5 (.iload_n 3) 1 6 := ⟨by decide +kernel, rfl⟩
theorem eX8_differs_6 : am_d cX8_differs 6 (.invokevirtual 171) 3 9 := ⟨by decide +kernel, rfl⟩
theorem eX8_differs_9 : am_d cX8_differs 9 (.getfield 185) 3 12 := ⟨by decide +kernel, rfl⟩
theorem eX8_differs_12 : am_d cX8_differs 12 (.astore 4) 2 14 := ⟨by decide +kernel, rfl⟩
theorem eX8_differs_14 : am_d cX8_differs 14 (.aload_n 0) 1 15 := ⟨by decide +kernel, rfl⟩
theorem eX8_differs_15 : am_d cX8_differs 15 (.iload_n 2) 1 16 := ⟨by decide +kernel, rfl⟩
theorem eX8_differs_16 : am_d cX8_differs 16 (.invokevirtual 105) 3 19 := ⟨by decide +kernel, rfl⟩
theorem eX8_differs_19 : am_d cX8_differs 19 (.iload_n 3) 1 20 := ⟨by decide +kernel, rfl⟩
theorem eX8_differs_20 : am_d cX8_differs 20 (.invokevirtual 171) 3 23 := ⟨by decide +kernel, rfl⟩
theorem eX8_differs_23 : am_d cX8_differs 23 (.getfield 185) 3 26 := ⟨by decide +kernel, rfl⟩
theorem eX8_differs_26 : am_d cX8_differs 26 (.astore 5) 2 28 := ⟨by decide +kernel, rfl⟩
theorem eX8_differs_28 : am_d cX8_differs 28 (.aload 4) 2 30 := ⟨by decide +kernel, rfl⟩
theorem eX8_differs_30 : am_d cX8_differs 30 (.aload 5) 2 32 := ⟨by decide +kernel, rfl⟩
theorem eX8_differs_32 : am_d cX8_differs 32 (.invokestatic 228) 3 35 := ⟨by decide +kernel, rfl⟩
theorem eX8_differs_35 : am_d cX8_differs 35 (.ireturn) 1 36 := ⟨by decide +kernel, rfl⟩
theorem eX8_came_0 : am_d cX8_came 0 (.aload_n 0) 1 1 := ⟨by decide +kernel, rfl⟩
theorem eX8_came_1 : am_d cX8_came 1 (.iload_n 1) 1 2 := ⟨by decide +kernel, rfl⟩
theorem eX8_came_2 : am_d cX8_came 2 (.invokevirtual 232) 3 5 := ⟨by decide +kernel, rfl⟩
theorem eX8_came_5 : am_d cX8_came 5 (.getfield 236) 3 8 := ⟨by decide +kernel, rfl⟩
theorem eX8_came_8 : am_d cX8_came 8 (.ireturn) 1 9 := ⟨by decide +kernel, rfl⟩
theorem eX8_told_0 : am_d cX8_told 0 (.aload_n 0) 1 1 := ⟨by decide +kernel, rfl⟩
theorem eX8_told_1 : am_d cX8_told 1 (.iload_n 1) 1 2 := ⟨by decide +kernel, rfl⟩
theorem eX8_told_2 : am_d cX8_told 2 (.iload_n 2) 1 3 := ⟨by decide +kernel, rfl⟩
theorem eX8_told_3 : am_d cX8_told 3 (.invokevirtual 239) 3 6 := ⟨by decide +kernel, rfl⟩
theorem eX8_told_6 : am_d cX8_told 6 (.astore 4) 2 8 := ⟨by decide +kernel, rfl⟩
theorem eX8_told_8 : am_d cX8_told 8 (.iload_n 3) 1 9 := ⟨by decide +kernel, rfl⟩
theorem eX8_told_9 : am_d cX8_told 9 (.iconst 0) 1 10 := ⟨by decide +kernel, rfl⟩
theorem eX8_told_10 : am_d cX8_told 10 (.iconst 3) 1 11 := ⟨by decide +kernel, rfl⟩
theorem eX8_told_11 : am_d cX8_told 11 (.invokestatic 55) 3 14 := ⟨by decide +kernel, rfl⟩
theorem eX8_told_14 : am_b cX8_told 14 (.ifCond .eq 13) (13) 17 27 := ⟨by decide +kernel, rfl, by decide⟩
theorem eX8_told_17 : am_d cX8_told 17 (.new 59) 3 20 := ⟨by decide +kernel, rfl⟩
theorem eX8_told_20 : am_d cX8_told 20 (.dup) 1 21 := ⟨by decide +kernel, rfl⟩
theorem eX8_told_21 : am_d cX8_told 21 (.ldc 223) 2 23 := ⟨by decide +kernel, rfl⟩
theorem eX8_told_23 : am_d cX8_told 23 (.invokespecial 63) 3 26 := ⟨by decide +kernel, rfl⟩
theorem eX8_told_26 : am_d cX8_told 26 (.athrow) 1 27 := ⟨by decide +kernel, rfl⟩
theorem eX8_told_27 : am_d cX8_told 27 (.aload 4) 2 29 := ⟨by decide +kernel, rfl⟩
theorem eX8_told_29 : am_d cX8_told 29 (.iload_n 3) 1 30 := ⟨by decide +kernel, rfl⟩
theorem eX8_told_30 : am_d cX8_told 30 (.invokevirtual 243) 3 33 := ⟨by decide +kernel, rfl⟩
theorem eX8_told_33 : am_d cX8_told 33 (.ireturn) 1 34 := ⟨by decide +kernel, rfl⟩
theorem eX8_phrase_0 : am_d cX8_phrase 0 (.aload_n 0) 1 1 := ⟨by decide +kernel, rfl⟩
theorem eX8_phrase_1 : am_d cX8_phrase 1 (.iload_n 1) 1 2 := ⟨by decide +kernel, rfl⟩
theorem eX8_phrase_2 : am_d cX8_phrase 2 (.iload_n 2) 1 3 := ⟨by decide +kernel, rfl⟩
theorem eX8_phrase_3 : am_d cX8_phrase 3 (.invokevirtual 239) 3 6 := ⟨by decide +kernel, rfl⟩
theorem eX8_phrase_6 : am_d cX8_phrase 6 (.astore 5) 2 8 := ⟨by decide +kernel, rfl⟩
theorem eX8_phrase_8 : am_d cX8_phrase 8 (.aload_n 0) 1 9 := ⟨by decide +kernel, rfl⟩
theorem eX8_phrase_9 : am_d cX8_phrase 9 (.iload 4) 2 11 := ⟨by decide +kernel, rfl⟩
theorem eX8_phrase_11 : am_d cX8_phrase 11 (.invokevirtual 119) 3 14 := ⟨by decide +kernel, rfl⟩
theorem eX8_phrase_14 : am_d cX8_phrase 14 (.astore 6) 2 16 := ⟨by decide +kernel, rfl⟩
theorem eX8_phrase_16 : am_d cX8_phrase 16 (.iload_n 3) 1 17 := ⟨by decide +kernel, rfl⟩
theorem eX8_phrase_17 : am_d cX8_phrase 17 (.iconst 0) 1 18 := ⟨by decide +kernel, rfl⟩
theorem eX8_phrase_18 : am_d cX8_phrase 18 (.aload 5) 2 20 := ⟨by decide +kernel, rfl⟩
theorem eX8_phrase_20 : am_d cX8_phrase 20 (.invokevirtual 247) 3 23 := ⟨by decide +kernel, rfl⟩
theorem eX8_phrase_23 : am_d cX8_phrase 23 (.iconst 1) 1 24 := ⟨by decide +kernel, rfl⟩
theorem eX8_phrase_24 : am_d cX8_phrase 24 (.isub) 1 25 := ⟨by decide +kernel, rfl⟩
theorem eX8_phrase_25 : am_d cX8_phrase 25 (.invokestatic 55) 3 28 := ⟨by decide +kernel, rfl⟩
theorem eX8_phrase_28 : am_b cX8_phrase 28 (.ifCond .eq 13) (13) 31 41 := ⟨by decide +kernel, rfl, by decide⟩
theorem eX8_phrase_31 : am_d cX8_phrase 31 (.new 212) 3 34 := ⟨by decide +kernel, rfl⟩
theorem eX8_phrase_34 : am_d cX8_phrase 34 (.dup) 1 35 := ⟨by decide +kernel, rfl⟩
theorem eX8_phrase_35 : am_d cX8_phrase 35 (.ldc 251) 2 37 := ⟨by decide +kernel, rfl⟩
theorem eX8_phrase_37 : am_d cX8_phrase 37 (.invokespecial 216) 3 40 := ⟨by decide +kernel, rfl⟩
theorem eX8_phrase_40 : am_d cX8_phrase 40 (.athrow) 1 41 := ⟨by decide +kernel, rfl⟩
theorem eX8_phrase_41 : am_d cX8_phrase 41 (.aload 6) 2 43 := ⟨by decide +kernel, rfl⟩
theorem eX8_phrase_43 : am_d cX8_phrase 43 (.aload 5) 2 45 := ⟨by decide +kernel, rfl⟩
theorem eX8_phrase_45 : am_d cX8_phrase 45 (.getfield 253) 3 48 := ⟨by decide +kernel, rfl⟩
theorem eX8_phrase_48 : am_d cX8_phrase 48 (.iconst 2) 1 49 := ⟨by decide +kernel, rfl⟩
theorem eX8_phrase_49 : am_d cX8_phrase 49 (.iload_n 3) 1 50 := ⟨by decide +kernel, rfl⟩
theorem eX8_phrase_50 : am_d cX8_phrase 50 (.imul) 1 51 := ⟨by decide +kernel, rfl⟩
theorem eX8_phrase_51 : am_d cX8_phrase 51 (.iaload) 1 52 := ⟨by decide +kernel, rfl⟩
theorem eX8_phrase_52 : am_d cX8_phrase 52 (.aload 5) 2 54 := ⟨by decide +kernel, rfl⟩
theorem eX8_phrase_54 : am_d cX8_phrase 54 (.getfield 253) 3 57 := ⟨by decide +kernel, rfl⟩
theorem eX8_phrase_57 : am_d cX8_phrase 57 (.iconst 2) 1 58 := ⟨by decide +kernel, rfl⟩
theorem eX8_phrase_58 : am_d cX8_phrase 58 (.iload_n 3) 1 59 := ⟨by decide +kernel, rfl⟩
theorem eX8_phrase_59 : am_d cX8_phrase 59 (.imul) 1 60 := ⟨by decide +kernel, rfl⟩
theorem eX8_phrase_60 : am_d cX8_phrase 60 (.iconst 1) 1 61 := ⟨by decide +kernel, rfl⟩
theorem eX8_phrase_61 : am_d cX8_phrase 61 (.iadd) 1 62 := ⟨by decide +kernel, rfl⟩
theorem eX8_phrase_62 : am_d cX8_phrase 62 (.iaload) 1 63 := ⟨by decide +kernel, rfl⟩
theorem eX8_phrase_63 : am_d cX8_phrase 63 (.invokestatic 125) 3 66 := ⟨by decide +kernel, rfl⟩
theorem eX8_phrase_66 : am_d cX8_phrase 66 (.invokevirtual 129) 3 69 := ⟨by decide +kernel, rfl⟩
theorem eX8_phrase_69 : am_d cX8_phrase 69 (.ireturn) 1 70 := ⟨by decide +kernel, rfl⟩
theorem eX8_open_0 : am_d cX8_open 0 (.aload_n 0) 1 1 := ⟨by decide +kernel, rfl⟩
theorem eX8_open_1 : am_d cX8_open 1 (.iload_n 1) 1 2 := ⟨by decide +kernel, rfl⟩
theorem eX8_open_2 : am_d cX8_open 2 (.invokevirtual 232) 3 5 := ⟨by decide +kernel, rfl⟩
theorem eX8_open_5 : am_d cX8_open 5 (.getfield 256) 3 8 := ⟨by decide +kernel, rfl⟩
theorem eX8_open_8 : am_d cX8_open 8 (.ireturn) 1 9 := ⟨by decide +kernel, rfl⟩
theorem eX8_seen_0 : am_d cX8_seen 0 (.aload_n 0) 1 1 := ⟨by decide +kernel, rfl⟩
theorem eX8_seen_1 : am_d cX8_seen 1 (.iload_n 1) 1 2 := ⟨by decide +kernel, rfl⟩
theorem eX8_seen_2 : am_d cX8_seen 2 (.invokevirtual 259) 3 5 := ⟨by decide +kernel, rfl⟩
theorem eX8_seen_5 : am_d cX8_seen 5 (.getfield 263) 3 8 := ⟨by decide +kernel, rfl⟩
theorem eX8_seen_8 : am_d cX8_seen 8 (.ireturn) 1 9 := ⟨by decide +kernel, rfl⟩
theorem eX8_tries_0 : am_d cX8_tries 0 (.aload_n 0) 1 1 := ⟨by decide +kernel, rfl⟩
theorem eX8_tries_1 : am_d cX8_tries 1 (.iload_n 1) 1 2 := ⟨by decide +kernel, rfl⟩
theorem eX8_tries_2 : am_d cX8_tries 2 (.invokevirtual 259) 3 5 := ⟨by decide +kernel, rfl⟩
theorem eX8_tries_5 : am_d cX8_tries 5 (.astore_n 3) 1 6 := ⟨by decide +kernel, rfl⟩
theorem eX8_tries_6 : am_d cX8_tries 6 (.aload_n 0) 1 7 := ⟨by decide +kernel, rfl⟩
theorem eX8_tries_7 : am_d cX8_tries 7 (.iload_n 2) 1 8 := ⟨by decide +kernel, rfl⟩
theorem eX8_tries_8 : am_d cX8_tries 8 (.invokevirtual 119) 3 11 := ⟨by decide +kernel, rfl⟩
theorem eX8_tries_11 : am_d cX8_tries 11 (.astore 4) 2 13 := ⟨by decide +kernel, rfl⟩
theorem eX8_tries_13 : am_d cX8_tries 13 (.iconst 0) 1 14 := ⟨by decide +kernel, rfl⟩
theorem eX8_tries_14 : am_d cX8_tries 14 (.istore 5) 2 16 := ⟨by decide +kernel, rfl⟩
theorem eX8_tries_16 : am_d cX8_tries 16 (.iconst 0) 1 17 := ⟨by decide +kernel, rfl⟩
theorem eX8_tries_17 : am_d cX8_tries 17 (.istore 6) 2 19 := ⟨by decide +kernel, rfl⟩
theorem eX8_tries_19 : am_d cX8_tries 19 (.iload 6) 2 21 := ⟨by decide +kernel, rfl⟩
theorem eX8_tries_21 : am_d cX8_tries 21 (.iconst 1) 1 22 := ⟨by decide +kernel, rfl⟩
theorem eX8_tries_22 : am_d cX8_tries 22 (.iadd) 1 23 := ⟨by decide +kernel, rfl⟩
theorem eX8_tries_23 : am_d cX8_tries 23 (.aload_n 3) 1 24 := ⟨by decide +kernel, rfl⟩
theorem eX8_tries_24 : am_d cX8_tries 24 (.getfield 263) 3 27 := ⟨by decide +kernel, rfl⟩
theorem eX8_tries_27 : am_b cX8_tries 27 (.if_icmp .ge 40) (40) 30 67 := ⟨by decide +kernel, rfl, by decide⟩
theorem eX8_tries_30 : am_d cX8_tries 30 (.aload 4) 2 32 := ⟨by decide +kernel, rfl⟩
theorem eX8_tries_32 : am_d cX8_tries 32 (.aload_n 3) 1 33 := ⟨by decide +kernel, rfl⟩
theorem eX8_tries_33 : am_d cX8_tries 33 (.getfield 264) 3 36 := ⟨by decide +kernel, rfl⟩
theorem eX8_tries_36 : am_d cX8_tries 36 (.iload 6) 2 38 := ⟨by decide +kernel, rfl⟩
theorem eX8_tries_38 : am_d cX8_tries 38 (.iaload) 1 39 := ⟨by decide +kernel, rfl⟩
theorem eX8_tries_39 : am_d cX8_tries 39 (.aload_n 3) 1 40 := ⟨by decide +kernel, rfl⟩
theorem eX8_tries_40 : am_d cX8_tries 40 (.getfield 264) 3 43 := ⟨by decide +kernel, rfl⟩
theorem eX8_tries_43 : am_d cX8_tries 43 (.iload 6) 2 45 := ⟨by decide +kernel, rfl⟩
theorem eX8_tries_45 : am_d cX8_tries 45 (.iconst 1) 1 46 := ⟨by decide +kernel, rfl⟩
theorem eX8_tries_46 : am_d cX8_tries 46 (.iadd) 1 47 := ⟨by decide +kernel, rfl⟩
theorem eX8_tries_47 : am_d cX8_tries 47 (.iaload) 1 48 := ⟨by decide +kernel, rfl⟩
theorem eX8_tries_48 : am_d cX8_tries 48 (.invokestatic 125) 3 51 := ⟨by decide +kernel, rfl⟩
theorem eX8_tries_51 : am_d cX8_tries 51 (.invokevirtual 129) 3 54 := ⟨by decide +kernel, rfl⟩
theorem eX8_tries_54 : am_d cX8_tries 54 (.iconst (-1)) 1 55 := ⟨by decide +kernel, rfl⟩
theorem eX8_tries_55 : am_b cX8_tries 55 (.if_icmp .eq 6) (6) 58 61 := ⟨by decide +kernel, rfl, by decide⟩
theorem eX8_tries_58 : am_d cX8_tries 58 (.iinc 5 1) 3 61 := ⟨by decide +kernel, rfl⟩
theorem eX8_tries_61 : am_d cX8_tries 61 (.iinc 6 2) 3 64 := ⟨by decide +kernel, rfl⟩
theorem eX8_tries_64 : am_b cX8_tries 64 (.goto (-45)) (-45) 67 19 := ⟨by decide +kernel, rfl, by decide⟩
theorem eX8_tries_67 : am_d cX8_tries 67 (.iload 5) 2 69 := ⟨by decide +kernel, rfl⟩
theorem eX8_tries_69 : am_d cX8_tries 69 (.ireturn) 1 70 := ⟨by decide +kernel, rfl⟩
theorem eX8_comes_0 : am_d cX8_comes 0 (.iload_n 1) 1 1 := ⟨by decide +kernel, rfl⟩
theorem eX8_comes_1 : am_d cX8_comes 1 (.iconst 1) 1 2 := ⟨by decide +kernel, rfl⟩
theorem eX8_comes_2 : am_d cX8_comes 2 (.bipush 99) 2 4 := ⟨by decide +kernel, rfl⟩
theorem eX8_comes_4 : am_d cX8_comes 4 (.invokestatic 55) 3 7 := ⟨by decide +kernel, rfl⟩
theorem eX8_comes_7 : am_b cX8_comes 7 (.ifCond .eq 14) (14) 10 21 := ⟨by decide +kernel, rfl, by decide⟩
theorem eX8_comes_10 : am_d cX8_comes 10 (.new 59) 3 13 := ⟨by decide +kernel, rfl⟩
theorem eX8_comes_13 : am_d cX8_comes 13 (.dup) 1 14 := ⟨by decide +kernel, rfl⟩
theorem eX8_comes_14 : am_d cX8_comes 14 (.ldc_w 265) 3 17 := ⟨by decide +kernel, rfl⟩
theorem eX8_comes_17 : am_d cX8_comes 17 (.invokespecial 63) 3 20 := ⟨by decide +kernel, rfl⟩
theorem eX8_comes_20 : am_d cX8_comes 20 (.athrow) 1 21 := ⟨by decide +kernel, rfl⟩
theorem eX8_comes_21 : am_d cX8_comes 21 (.aload_n 0) 1 22 := ⟨by decide +kernel, rfl⟩
theorem eX8_comes_22 : am_d cX8_comes 22 (.getfield 66) 3 25 := ⟨by decide +kernel, rfl⟩
theorem eX8_comes_25 : am_d cX8_comes 25 (.iconst 2) 1 26 := ⟨by decide +kernel, rfl⟩
theorem eX8_comes_26 : am_b cX8_comes 26 (.if_icmp .ge 7) (7) 29 33 := ⟨by decide +kernel, rfl, by decide⟩
theorem eX8_comes_29 : am_d cX8_comes 29 (.iconst (-1)) 1 30 := ⟨by decide +kernel, rfl⟩
theorem eX8_comes_30 : am_b cX8_comes 30 (.goto 11) (11) 33 41 := ⟨by decide +kernel, rfl, by decide⟩
theorem eX8_comes_33 : am_d cX8_comes 33 (.iload_n 1) 1 34 := ⟨by decide +kernel, rfl⟩
theorem eX8_comes_34 : am_d cX8_comes 34 (.aload_n 0) 1 35 := ⟨by decide +kernel, rfl⟩
theorem eX8_comes_35 : am_d cX8_comes 35 (.getfield 66) 3 38 := ⟨by decide +kernel, rfl⟩
theorem eX8_comes_38 : am_d cX8_comes 38 (.iadd) 1 39 := ⟨by decide +kernel, rfl⟩
theorem eX8_comes_39 : am_d cX8_comes 39 (.iconst 1) 1 40 := ⟨by decide +kernel, rfl⟩
theorem eX8_comes_40 : am_d cX8_comes 40 (.isub) 1 41 := ⟨by decide +kernel, rfl⟩
theorem eX8_comes_41 : am_d cX8_comes 41 (.ireturn) 1 42 := ⟨by decide +kernel, rfl⟩
theorem eX8_comesAnew_0 : am_d cX8_comesAnew 0 (.iload_n 1) 1 1 := ⟨by decide +kernel, rfl⟩
theorem eX8_comesAnew_1 : am_d cX8_comesAnew 1 (.iconst 1) 1 2 := ⟨by decide +kernel, rfl⟩
theorem eX8_comesAnew_2 : am_d cX8_comesAnew 2 (.bipush 99) 2 4 := ⟨by decide +kernel, rfl⟩
theorem eX8_comesAnew_4 : am_d cX8_comesAnew 4 (.invokestatic 55) 3 7 := ⟨by decide +kernel, rfl⟩
theorem eX8_comesAnew_7 : am_b cX8_comesAnew 7 (.ifCond .eq 14) (14) 10 21 := ⟨by decide +kernel, rfl, by decide⟩
theorem eX8_comesAnew_10 : am_d cX8_comesAnew 10 (.new 59) 3 13 := ⟨by decide +kernel, rfl⟩
theorem eX8_comesAnew_13 : am_d cX8_comesAnew 13 (.dup) 1 14 := ⟨by decide +kernel, rfl⟩
theorem eX8_comesAnew_14 : am_d cX8_comesAnew 14 (.ldc_w 265) 3 17 := ⟨by decide +kernel, rfl⟩
theorem eX8_comesAnew_17 : am_d cX8_comesAnew 17 (.invokespecial 63) 3 20 := ⟨by decide +kernel, rfl⟩
theorem eX8_comesAnew_20 : am_d cX8_comesAnew 20 (.athrow) 1 21 := ⟨by decide +kernel, rfl⟩
theorem eX8_comesAnew_21 : am_d cX8_comesAnew 21 (.aload_n 0) 1 22 := ⟨by decide +kernel, rfl⟩
theorem eX8_comesAnew_22 : am_d cX8_comesAnew 22 (.getfield 66) 3 25 := ⟨by decide +kernel, rfl⟩
theorem eX8_comesAnew_25 : am_d cX8_comesAnew 25 (.iconst 2) 1 26 := ⟨by decide +kernel, rfl⟩
theorem eX8_comesAnew_26 : am_b cX8_comesAnew 26 (.if_icmp .ge 7) (7) 29 33 := ⟨by decide +kernel, rfl, by decide⟩
theorem eX8_comesAnew_29 : am_d cX8_comesAnew 29 (.iconst (-1)) 1 30 := ⟨by decide +kernel, rfl⟩
theorem eX8_comesAnew_30 : am_b cX8_comesAnew 30 (.goto 13) (13) 33 43 := ⟨by decide +kernel, rfl, by decide⟩
theorem eX8_comesAnew_33 : am_d cX8_comesAnew 33 (.iload_n 1) 1 34 := ⟨by decide +kernel, rfl⟩
theorem eX8_comesAnew_34 : am_d cX8_comesAnew 34 (.aload_n 0) 1 35 := ⟨by decide +kernel, rfl⟩
theorem eX8_comesAnew_35 : am_d cX8_comesAnew 35 (.getfield 66) 3 38 := ⟨by decide +kernel, rfl⟩
theorem eX8_comesAnew_38 : am_d cX8_comesAnew 38 (.iconst 1) 1 39 := ⟨by decide +kernel, rfl⟩
theorem eX8_comesAnew_39 : am_d cX8_comesAnew 39 (.isub) 1 40 := ⟨by decide +kernel, rfl⟩
theorem eX8_comesAnew_40 : am_d cX8_comesAnew 40 (.invokestatic 267) 3 43 := ⟨by decide +kernel, rfl⟩
theorem eX8_comesAnew_43 : am_d cX8_comesAnew 43 (.ireturn) 1 44 := ⟨by decide +kernel, rfl⟩
theorem eX8_isOutside_0 : am_d cX8_isOutside 0 (.iload_n 0) 1 1 := ⟨by decide +kernel, rfl⟩
theorem eX8_isOutside_1 : am_d cX8_isOutside 1 (.iload_n 1) 1 2 := ⟨by decide +kernel, rfl⟩
theorem eX8_isOutside_2 : am_b cX8_isOutside 2 (.if_icmp .lt 8) (8) 5 10 := ⟨by decide +kernel, rfl, by decide⟩
theorem eX8_isOutside_5 : am_d cX8_isOutside 5 (.iload_n 0) 1 6 := ⟨by decide +kernel, rfl⟩
theorem eX8_isOutside_6 : am_d cX8_isOutside 6 (.iload_n 2) 1 7 := ⟨by decide +kernel, rfl⟩
theorem eX8_isOutside_7 : am_b cX8_isOutside 7 (.if_icmp .le 7) (7) 10 14 := ⟨by decide +kernel, rfl, by decide⟩
theorem eX8_isOutside_10 : am_d cX8_isOutside 10 (.iconst 1) 1 11 := ⟨by decide +kernel, rfl⟩
theorem eX8_isOutside_11 : am_b cX8_isOutside 11 (.goto 4) (4) 14 15 := ⟨by decide +kernel, rfl, by decide⟩
theorem eX8_isOutside_14 : am_d cX8_isOutside 14 (.iconst 0) 1 15 := ⟨by decide +kernel, rfl⟩
theorem eX8_isOutside_15 : am_d cX8_isOutside 15 (.ireturn) 1 16 := ⟨by decide +kernel, rfl⟩
theorem eX8_spotOf_0 : am_d cX8_spotOf 0 (.iload_n 0) 1 1 := ⟨by decide +kernel, rfl⟩
theorem eX8_spotOf_1 : am_d cX8_spotOf 1 (.bipush 92) 2 3 := ⟨by decide +kernel, rfl⟩
theorem eX8_spotOf_3 : am_d cX8_spotOf 3 (.imul) 1 4 := ⟨by decide +kernel, rfl⟩
theorem eX8_spotOf_4 : am_d cX8_spotOf 4 (.iload_n 1) 1 5 := ⟨by decide +kernel, rfl⟩
theorem eX8_spotOf_5 : am_d cX8_spotOf 5 (.iadd) 1 6 := ⟨by decide +kernel, rfl⟩
theorem eX8_spotOf_6 : am_d cX8_spotOf 6 (.ireturn) 1 7 := ⟨by decide +kernel, rfl⟩
theorem eX8_towerAt_0 : am_d cX8_towerAt 0 (.iload_n 1) 1 1 := ⟨by decide +kernel, rfl⟩
theorem eX8_towerAt_1 : am_b cX8_towerAt 1 (.ifCond .lt 11) (11) 4 12 := ⟨by decide +kernel, rfl, by decide⟩
theorem eX8_towerAt_4 : am_d cX8_towerAt 4 (.iload_n 1) 1 5 := ⟨by decide +kernel, rfl⟩
theorem eX8_towerAt_5 : am_d cX8_towerAt 5 (.aload_n 0) 1 6 := ⟨by decide +kernel, rfl⟩
theorem eX8_towerAt_6 : am_d cX8_towerAt 6 (.getfield 66) 3 9 := ⟨by decide +kernel, rfl⟩
theorem eX8_towerAt_9 : am_b cX8_towerAt 9 (.if_icmp .lt 14) (14) 12 23 := ⟨by decide +kernel, rfl, by decide⟩
theorem eX8_towerAt_12 : am_d cX8_towerAt 12 (.new 212) 3 15 := ⟨by decide +kernel, rfl⟩
theorem eX8_towerAt_15 : am_d cX8_towerAt 15 (.dup) 1 16 := ⟨by decide +kernel, rfl⟩
theorem eX8_towerAt_16 : am_d cX8_towerAt 16 (.ldc_w 270) 3 19 := ⟨by decide +kernel, rfl⟩
theorem eX8_towerAt_19 : am_d cX8_towerAt 19 (.invokespecial 216) 3 22 := ⟨by decide +kernel, rfl⟩
theorem eX8_towerAt_22 : am_d cX8_towerAt 22 (.athrow) 1 23 := ⟨by decide +kernel, rfl⟩
theorem eX8_towerAt_23 : am_d cX8_towerAt 23 (.aload_n 0) 1 24 := ⟨by decide +kernel, rfl⟩
theorem eX8_towerAt_24 : am_d cX8_towerAt 24 (.getfield 11) 3 27 := ⟨by decide +kernel, rfl⟩
theorem eX8_towerAt_27 : am_d cX8_towerAt 27 (.iload_n 1) 1 28 := ⟨by decide +kernel, rfl⟩
theorem eX8_towerAt_28 : am_d cX8_towerAt 28 (.aaload) 1 29 := ⟨by decide +kernel, rfl⟩
theorem eX8_towerAt_29 : am_d cX8_towerAt 29 (.areturn) 1 30 := ⟨by decide +kernel, rfl⟩
theorem eX8_stretchAt_0 : am_d cX8_stretchAt 0 (.iload_n 1) 1 1 := ⟨by decide +kernel, rfl⟩
theorem eX8_stretchAt_1 : am_b cX8_stretchAt 1 (.ifCond .lt 13) (13) 4 14 := ⟨by decide +kernel, rfl, by decide⟩
theorem eX8_stretchAt_4 : am_d cX8_stretchAt 4 (.iload_n 1) 1 5 := ⟨by decide +kernel, rfl⟩
theorem eX8_stretchAt_5 : am_d cX8_stretchAt 5 (.aload_n 0) 1 6 := ⟨by decide +kernel, rfl⟩
theorem eX8_stretchAt_6 : am_d cX8_stretchAt 6 (.getfield 66) 3 9 := ⟨by decide +kernel, rfl⟩
theorem eX8_stretchAt_9 : am_d cX8_stretchAt 9 (.iconst 1) 1 10 := ⟨by decide +kernel, rfl⟩
theorem eX8_stretchAt_10 : am_d cX8_stretchAt 10 (.isub) 1 11 := ⟨by decide +kernel, rfl⟩
theorem eX8_stretchAt_11 : am_b cX8_stretchAt 11 (.if_icmp .lt 14) (14) 14 25 := ⟨by decide +kernel, rfl, by decide⟩
theorem eX8_stretchAt_14 : am_d cX8_stretchAt 14 (.new 212) 3 17 := ⟨by decide +kernel, rfl⟩
theorem eX8_stretchAt_17 : am_d cX8_stretchAt 17 (.dup) 1 18 := ⟨by decide +kernel, rfl⟩
theorem eX8_stretchAt_18 : am_d cX8_stretchAt 18 (.ldc_w 272) 3 21 := ⟨by decide +kernel, rfl⟩
theorem eX8_stretchAt_21 : am_d cX8_stretchAt 21 (.invokespecial 216) 3 24 := ⟨by decide +kernel, rfl⟩
theorem eX8_stretchAt_24 : am_d cX8_stretchAt 24 (.athrow) 1 25 := ⟨by decide +kernel, rfl⟩
theorem eX8_stretchAt_25 : am_d cX8_stretchAt 25 (.aload_n 0) 1 26 := ⟨by decide +kernel, rfl⟩
theorem eX8_stretchAt_26 : am_d cX8_stretchAt 26 (.getfield 17) 3 29 := ⟨by decide +kernel, rfl⟩
theorem eX8_stretchAt_29 : am_d cX8_stretchAt 29 (.iload_n 1) 1 30 := ⟨by decide +kernel, rfl⟩
theorem eX8_stretchAt_30 : am_d cX8_stretchAt 30 (.aaload) 1 31 := ⟨by decide +kernel, rfl⟩
theorem eX8_stretchAt_31 : am_d cX8_stretchAt 31 (.areturn) 1 32 := ⟨by decide +kernel, rfl⟩
theorem eX8_bookAt_0 : am_d cX8_bookAt 0 (.iload_n 1) 1 1 := ⟨by decide +kernel, rfl⟩
theorem eX8_bookAt_1 : am_b cX8_bookAt 1 (.ifCond .lt 8) (8) 4 9 := ⟨by decide +kernel, rfl, by decide⟩
theorem eX8_bookAt_4 : am_d cX8_bookAt 4 (.iload_n 1) 1 5 := ⟨by decide +kernel, rfl⟩
theorem eX8_bookAt_5 : am_d cX8_bookAt 5 (.iconst 3) 1 6 := ⟨by decide +kernel, rfl⟩
theorem eX8_bookAt_6 : am_b cX8_bookAt 6 (.if_icmp .lt 14) (14) 9 20 := ⟨by decide +kernel, rfl, by decide⟩
theorem eX8_bookAt_9 : am_d cX8_bookAt 9 (.new 212) 3 12 := ⟨by decide +kernel, rfl⟩
theorem eX8_bookAt_12 : am_d cX8_bookAt 12 (.dup) 1 13 := ⟨by decide +kernel, rfl⟩
theorem eX8_bookAt_13 : am_d cX8_bookAt 13 (.ldc_w 274) 3 16 := ⟨by decide +kernel, rfl⟩
theorem eX8_bookAt_16 : am_d cX8_bookAt 16 (.invokespecial 216) 3 19 := ⟨by decide +kernel, rfl⟩
theorem eX8_bookAt_19 : am_d cX8_bookAt 19 (.athrow) 1 20 := ⟨by decide +kernel, rfl⟩
theorem eX8_bookAt_20 : am_d cX8_bookAt 20 (.aload_n 0) 1 21 := ⟨by decide +kernel, rfl⟩
theorem eX8_bookAt_21 : am_d cX8_bookAt 21 (.getfield 27) 3 24 := ⟨by decide +kernel, rfl⟩
theorem eX8_bookAt_24 : am_d cX8_bookAt 24 (.iload_n 1) 1 25 := ⟨by decide +kernel, rfl⟩
theorem eX8_bookAt_25 : am_d cX8_bookAt 25 (.aaload) 1 26 := ⟨by decide +kernel, rfl⟩
theorem eX8_bookAt_26 : am_d cX8_bookAt 26 (.areturn) 1 27 := ⟨by decide +kernel, rfl⟩
theorem eX8_spyAt_0 : am_d cX8_spyAt 0 (.iload_n 1) 1 1 := ⟨by decide +kernel, rfl⟩
theorem eX8_spyAt_1 : am_b cX8_spyAt 1 (.ifCond .lt 11) (11) 4 12 := ⟨by decide +kernel, rfl, by decide⟩
theorem eX8_spyAt_4 : am_d cX8_spyAt 4 (.iload_n 1) 1 5 := ⟨by decide +kernel, rfl⟩
theorem eX8_spyAt_5 : am_d cX8_spyAt 5 (.aload_n 0) 1 6 := ⟨by decide +kernel, rfl⟩
theorem eX8_spyAt_6 : am_d cX8_spyAt 6 (.getfield 195) 3 9 := ⟨by decide +kernel, rfl⟩
theorem eX8_spyAt_9 : am_b cX8_spyAt 9 (.if_icmp .lt 14) (14) 12 23 := ⟨by decide +kernel, rfl, by decide⟩
theorem eX8_spyAt_12 : am_d cX8_spyAt 12 (.new 212) 3 15 := ⟨by decide +kernel, rfl⟩
theorem eX8_spyAt_15 : am_d cX8_spyAt 15 (.dup) 1 16 := ⟨by decide +kernel, rfl⟩
theorem eX8_spyAt_16 : am_d cX8_spyAt 16 (.ldc_w 276) 3 19 := ⟨by decide +kernel, rfl⟩
theorem eX8_spyAt_19 : am_d cX8_spyAt 19 (.invokespecial 216) 3 22 := ⟨by decide +kernel, rfl⟩
theorem eX8_spyAt_22 : am_d cX8_spyAt 22 (.athrow) 1 23 := ⟨by decide +kernel, rfl⟩
theorem eX8_spyAt_23 : am_d cX8_spyAt 23 (.aload_n 0) 1 24 := ⟨by decide +kernel, rfl⟩
theorem eX8_spyAt_24 : am_d cX8_spyAt 24 (.getfield 51) 3 27 := ⟨by decide +kernel, rfl⟩
theorem eX8_spyAt_27 : am_d cX8_spyAt 27 (.iload_n 1) 1 28 := ⟨by decide +kernel, rfl⟩
theorem eX8_spyAt_28 : am_d cX8_spyAt 28 (.aaload) 1 29 := ⟨by decide +kernel, rfl⟩
theorem eX8_spyAt_29 : am_d cX8_spyAt 29 (.areturn) 1 30 := ⟨by decide +kernel, rfl⟩
theorem eX8_dispatchAt_0 : am_d cX8_dispatchAt 0 (.aload_n 0) 1 1 := ⟨by decide +kernel, rfl⟩
theorem eX8_dispatchAt_1 : am_d cX8_dispatchAt 1 (.iload_n 1) 1 2 := ⟨by decide +kernel, rfl⟩
theorem eX8_dispatchAt_2 : am_d cX8_dispatchAt 2 (.invokevirtual 232) 3 5 := ⟨by decide +kernel, rfl⟩
theorem eX8_dispatchAt_5 : am_d cX8_dispatchAt 5 (.astore_n 3) 1 6 := ⟨by decide +kernel, rfl⟩
theorem eX8_dispatchAt_6 : am_d cX8_dispatchAt 6 (.iload_n 2) 1 7 := ⟨by decide +kernel, rfl⟩
theorem eX8_dispatchAt_7 : am_b cX8_dispatchAt 7 (.ifCond .lt 11) (11) 10 18 := ⟨by decide +kernel, rfl, by decide⟩
theorem eX8_dispatchAt_10 : am_d cX8_dispatchAt 10 (.iload_n 2) 1 11 := ⟨by decide +kernel, rfl⟩
theorem eX8_dispatchAt_11 : am_d cX8_dispatchAt 11 (.aload_n 3) 1 12 := ⟨by decide +kernel, rfl⟩
theorem eX8_dispatchAt_12 : am_d cX8_dispatchAt 12 (.getfield 236) 3 15 := ⟨by decide +kernel, rfl⟩
theorem eX8_dispatchAt_15 : am_b cX8_dispatchAt 15 (.if_icmp .lt 14) (14) 18 29 := ⟨by decide +kernel, rfl, by decide⟩
theorem eX8_dispatchAt_18 : am_d cX8_dispatchAt 18 (.new 212) 3 21 := ⟨by decide +kernel, rfl⟩
theorem eX8_dispatchAt_21 : am_d cX8_dispatchAt 21 (.dup) 1 22 := ⟨by decide +kernel, rfl⟩
theorem eX8_dispatchAt_22 : am_d cX8_dispatchAt 22 (.ldc_w 278) 3 25 := ⟨by decide +kernel, rfl⟩
theorem eX8_dispatchAt_25 : am_d cX8_dispatchAt 25 (.invokespecial 216) 3 28 := ⟨by decide +kernel, rfl⟩
theorem eX8_dispatchAt_28 : am_d cX8_dispatchAt 28 (.athrow) 1 29 := ⟨by decide +kernel, rfl⟩
theorem eX8_dispatchAt_29 : am_d cX8_dispatchAt 29 (.aload_n 3) 1 30 := ⟨by decide +kernel, rfl⟩
theorem eX8_dispatchAt_30 : am_d cX8_dispatchAt 30 (.getfield 280) 3 33 := ⟨by decide +kernel, rfl⟩
theorem eX8_dispatchAt_33 : am_d cX8_dispatchAt 33 (.iload_n 2) 1 34 := ⟨by decide +kernel, rfl⟩
theorem eX8_dispatchAt_34 : am_d cX8_dispatchAt 34 (.aaload) 1 35 := ⟨by decide +kernel, rfl⟩
theorem eX8_dispatchAt_35 : am_d cX8_dispatchAt 35 (.areturn) 1 36 := ⟨by decide +kernel, rfl⟩
theorem eX8_tapeOf_0 : am_d cX8_tapeOf 0 (.iload_n 1) 1 1 := ⟨by decide +kernel, rfl⟩
theorem eX8_tapeOf_1 : am_b cX8_tapeOf 1 (.ifCond .eq 10) (10) 4 11 := ⟨by decide +kernel, rfl, by decide⟩
theorem eX8_tapeOf_4 : am_d cX8_tapeOf 4 (.aload_n 0) 1 5 := ⟨by decide +kernel, rfl⟩
theorem eX8_tapeOf_5 : am_d cX8_tapeOf 5 (.getfield 42) 3 8 := ⟨by decide +kernel, rfl⟩
theorem eX8_tapeOf_8 : am_b cX8_tapeOf 8 (.goto 7) (7) 11 15 := ⟨by decide +kernel, rfl, by decide⟩
theorem eX8_tapeOf_11 : am_d cX8_tapeOf 11 (.aload_n 0) 1 12 := ⟨by decide +kernel, rfl⟩
theorem eX8_tapeOf_12 : am_d cX8_tapeOf 12 (.getfield 46) 3 15 := ⟨by decide +kernel, rfl⟩
theorem eX8_tapeOf_15 : am_d cX8_tapeOf 15 (.areturn) 1 16 := ⟨by decide +kernel, rfl⟩
theorem eX8_isEnd_0 : am_d cX8_isEnd 0 (.iload_n 1) 1 1 := ⟨by decide +kernel, rfl⟩
theorem eX8_isEnd_1 : am_d cX8_isEnd 1 (.iload_n 2) 1 2 := ⟨by decide +kernel, rfl⟩
theorem eX8_isEnd_2 : am_b cX8_isEnd 2 (.ifCond .eq 12) (12) 5 14 := ⟨by decide +kernel, rfl, by decide⟩
theorem eX8_isEnd_5 : am_d cX8_isEnd 5 (.aload_n 0) 1 6 := ⟨by decide +kernel, rfl⟩
end
section
theorem eX8_isEnd_6 : am_d cX8_isEnd 6 (.getfield 66) 3 9 := ⟨by decide +kernel, rfl⟩
theorem eX8_isEnd_9 : am_d cX8_isEnd 9 (.iconst 1) 1 10 := ⟨by decide +kernel, rfl⟩
theorem eX8_isEnd_10 : am_d cX8_isEnd 10 (.isub) 1 11 := ⟨by decide +kernel, rfl⟩
theorem eX8_isEnd_11 : am_b cX8_isEnd 11 (.goto 4) (4) 14 15 := ⟨by decide +kernel, rfl, by decide⟩
theorem eX8_isEnd_14 : am_d cX8_isEnd 14 (.iconst 0) 1 15 := ⟨by decide +kernel, rfl⟩
theorem eX8_isEnd_15 : am_b cX8_isEnd 15 (.if_icmp .ne 7) (7) 18 22 := ⟨by decide +kernel, rfl, by decide⟩
theorem eX8_isEnd_18 : am_d cX8_isEnd 18 (.iconst 1) 1 19 := ⟨by decide +kernel, rfl⟩
theorem eX8_isEnd_19 : am_b cX8_isEnd 19 (.goto 4) (4) 22 23 := ⟨by decide +kernel, rfl, by decide⟩
theorem eX8_isEnd_22 : am_d cX8_isEnd 22 (.iconst 0) 1 23 := ⟨by decide +kernel, rfl⟩
theorem eX8_isEnd_23 : am_d cX8_isEnd 23 (.ireturn) 1 24 := ⟨by decide +kernel, rfl⟩
theorem eX8_isDay_0 : am_d cX8_isDay 0 (.aload_n 0) 1 1 := ⟨by decide +kernel, rfl⟩
theorem eX8_isDay_1 : am_d cX8_isDay 1 (.getfield 21) 3 4 := ⟨by decide +kernel, rfl⟩
theorem eX8_isDay_4 : am_d cX8_isDay 4 (.sipush 1440) 3 7 := ⟨by decide +kernel, rfl⟩
theorem eX8_isDay_7 : am_d cX8_isDay 7 (.irem) 1 8 := ⟨by decide +kernel, rfl⟩
theorem eX8_isDay_8 : am_d cX8_isDay 8 (.istore_n 1) 1 9 := ⟨by decide +kernel, rfl⟩
theorem eX8_isDay_9 : am_d cX8_isDay 9 (.iload_n 1) 1 10 := ⟨by decide +kernel, rfl⟩
theorem eX8_isDay_10 : am_d cX8_isDay 10 (.sipush 360) 3 13 := ⟨by decide +kernel, rfl⟩
theorem eX8_isDay_13 : am_b cX8_isDay 13 (.if_icmp .lt 14) (14) 16 27 := ⟨by decide +kernel, rfl, by decide⟩
theorem eX8_isDay_16 : am_d cX8_isDay 16 (.iload_n 1) 1 17 := ⟨by decide +kernel, rfl⟩
theorem eX8_isDay_17 : am_d cX8_isDay 17 (.sipush 1080) 3 20 := ⟨by decide +kernel, rfl⟩
theorem eX8_isDay_20 : am_b cX8_isDay 20 (.if_icmp .ge 7) (7) 23 27 := ⟨by decide +kernel, rfl, by decide⟩
theorem eX8_isDay_23 : am_d cX8_isDay 23 (.iconst 1) 1 24 := ⟨by decide +kernel, rfl⟩
theorem eX8_isDay_24 : am_b cX8_isDay 24 (.goto 4) (4) 27 28 := ⟨by decide +kernel, rfl, by decide⟩
theorem eX8_isDay_27 : am_d cX8_isDay 27 (.iconst 0) 1 28 := ⟨by decide +kernel, rfl⟩
theorem eX8_isDay_28 : am_d cX8_isDay 28 (.ireturn) 1 29 := ⟨by decide +kernel, rfl⟩
theorem eX8_isSeenAlong_0 : am_d cX8_isSeenAlong 0 (.aload_n 0) 1 1 := ⟨by decide +kernel, rfl⟩
theorem eX8_isSeenAlong_1 : am_d cX8_isSeenAlong 1 (.invokevirtual 284) 3 4 := ⟨by decide +kernel, rfl⟩
theorem eX8_isSeenAlong_4 : am_b cX8_isSeenAlong 4 (.ifCond .eq 39) (39) 7 43 := ⟨by decide +kernel, rfl, by decide⟩
theorem eX8_isSeenAlong_7 : am_d cX8_isSeenAlong 7 (.aload_n 0) 1 8 := ⟨by decide +kernel, rfl⟩
theorem eX8_isSeenAlong_8 : am_d cX8_isSeenAlong 8 (.getfield 17) 3 11 := ⟨by decide +kernel, rfl⟩
theorem eX8_isSeenAlong_11 : am_d cX8_isSeenAlong 11 (.iload_n 1) 1 12 := ⟨by decide +kernel, rfl⟩
theorem eX8_isSeenAlong_12 : am_d cX8_isSeenAlong 12 (.aaload) 1 13 := ⟨by decide +kernel, rfl⟩
theorem eX8_isSeenAlong_13 : am_d cX8_isSeenAlong 13 (.aload_n 0) 1 14 := ⟨by decide +kernel, rfl⟩
theorem eX8_isSeenAlong_14 : am_d cX8_isSeenAlong 14 (.getfield 11) 3 17 := ⟨by decide +kernel, rfl⟩
theorem eX8_isSeenAlong_17 : am_d cX8_isSeenAlong 17 (.iload_n 1) 1 18 := ⟨by decide +kernel, rfl⟩
theorem eX8_isSeenAlong_18 : am_d cX8_isSeenAlong 18 (.aaload) 1 19 := ⟨by decide +kernel, rfl⟩
theorem eX8_isSeenAlong_19 : am_d cX8_isSeenAlong 19 (.getfield 288) 3 22 := ⟨by decide +kernel, rfl⟩
theorem eX8_isSeenAlong_22 : am_d cX8_isSeenAlong 22 (.aload_n 0) 1 23 := ⟨by decide +kernel, rfl⟩
theorem eX8_isSeenAlong_23 : am_d cX8_isSeenAlong 23 (.getfield 11) 3 26 := ⟨by decide +kernel, rfl⟩
theorem eX8_isSeenAlong_26 : am_d cX8_isSeenAlong 26 (.iload_n 1) 1 27 := ⟨by decide +kernel, rfl⟩
theorem eX8_isSeenAlong_27 : am_d cX8_isSeenAlong 27 (.iconst 1) 1 28 := ⟨by decide +kernel, rfl⟩
theorem eX8_isSeenAlong_28 : am_d cX8_isSeenAlong 28 (.iadd) 1 29 := ⟨by decide +kernel, rfl⟩
theorem eX8_isSeenAlong_29 : am_d cX8_isSeenAlong 29 (.aaload) 1 30 := ⟨by decide +kernel, rfl⟩
theorem eX8_isSeenAlong_30 : am_d cX8_isSeenAlong 30 (.getfield 288) 3 33 := ⟨by decide +kernel, rfl⟩
theorem eX8_isSeenAlong_33 : am_d cX8_isSeenAlong 33 (.invokevirtual 291) 3 36 := ⟨by decide +kernel, rfl⟩
theorem eX8_isSeenAlong_36 : am_b cX8_isSeenAlong 36 (.ifCond .eq 7) (7) 39 43 := ⟨by decide +kernel, rfl, by decide⟩
theorem eX8_isSeenAlong_39 : am_d cX8_isSeenAlong 39 (.iconst 1) 1 40 := ⟨by decide +kernel, rfl⟩
theorem eX8_isSeenAlong_40 : am_b cX8_isSeenAlong 40 (.goto 4) (4) 43 44 := ⟨by decide +kernel, rfl, by decide⟩
theorem eX8_isSeenAlong_43 : am_d cX8_isSeenAlong 43 (.iconst 0) 1 44 := ⟨by decide +kernel, rfl⟩
theorem eX8_isSeenAlong_44 : am_d cX8_isSeenAlong 44 (.ireturn) 1 45 := ⟨by decide +kernel, rfl⟩
theorem eX8_layOut_0 : am_d cX8_layOut 0 (.iconst 0) 1 1 := ⟨by decide +kernel, rfl⟩
theorem eX8_layOut_1 : am_d cX8_layOut 1 (.istore_n 3) 1 2 := ⟨by decide +kernel, rfl⟩
theorem eX8_layOut_2 : am_d cX8_layOut 2 (.iload_n 2) 1 3 := ⟨by decide +kernel, rfl⟩
theorem eX8_layOut_3 : am_b cX8_layOut 3 (.ifCond .eq 14) (14) 6 17 := ⟨by decide +kernel, rfl, by decide⟩
theorem eX8_layOut_6 : am_d cX8_layOut 6 (.aload_n 0) 1 7 := ⟨by decide +kernel, rfl⟩
theorem eX8_layOut_7 : am_d cX8_layOut 7 (.getfield 36) 3 10 := ⟨by decide +kernel, rfl⟩
theorem eX8_layOut_10 : am_d cX8_layOut 10 (.iload_n 3) 1 11 := ⟨by decide +kernel, rfl⟩
theorem eX8_layOut_11 : am_d cX8_layOut 11 (.iinc 3 1) 3 14 := ⟨by decide +kernel, rfl⟩
theorem eX8_layOut_14 : am_d cX8_layOut 14 (.bipush 96) 2 16 := ⟨by decide +kernel, rfl⟩
theorem eX8_layOut_16 : am_d cX8_layOut 16 (.iastore) 1 17 := ⟨by decide +kernel, rfl⟩
theorem eX8_layOut_17 : am_d cX8_layOut 17 (.aload_n 0) 1 18 := ⟨by decide +kernel, rfl⟩
theorem eX8_layOut_18 : am_d cX8_layOut 18 (.getfield 36) 3 21 := ⟨by decide +kernel, rfl⟩
theorem eX8_layOut_21 : am_d cX8_layOut 21 (.iload_n 3) 1 22 := ⟨by decide +kernel, rfl⟩
theorem eX8_layOut_22 : am_d cX8_layOut 22 (.iinc 3 1) 3 25 := ⟨by decide +kernel, rfl⟩
theorem eX8_layOut_25 : am_d cX8_layOut 25 (.bipush 92) 2 27 := ⟨by decide +kernel, rfl⟩
theorem eX8_layOut_27 : am_d cX8_layOut 27 (.iastore) 1 28 := ⟨by decide +kernel, rfl⟩
theorem eX8_layOut_28 : am_d cX8_layOut 28 (.iconst 0) 1 29 := ⟨by decide +kernel, rfl⟩
theorem eX8_layOut_29 : am_d cX8_layOut 29 (.istore 4) 2 31 := ⟨by decide +kernel, rfl⟩
theorem eX8_layOut_31 : am_d cX8_layOut 31 (.iload 4) 2 33 := ⟨by decide +kernel, rfl⟩
theorem eX8_layOut_33 : am_d cX8_layOut 33 (.aload_n 0) 1 34 := ⟨by decide +kernel, rfl⟩
theorem eX8_layOut_34 : am_d cX8_layOut 34 (.getfield 140) 3 37 := ⟨by decide +kernel, rfl⟩
theorem eX8_layOut_37 : am_b cX8_layOut 37 (.if_icmp .ge 58) (58) 40 95 := ⟨by decide +kernel, rfl, by decide⟩
theorem eX8_layOut_40 : am_d cX8_layOut 40 (.aload_n 1) 1 41 := ⟨by decide +kernel, rfl⟩
theorem eX8_layOut_41 : am_d cX8_layOut 41 (.aload_n 0) 1 42 := ⟨by decide +kernel, rfl⟩
theorem eX8_layOut_42 : am_d cX8_layOut 42 (.getfield 32) 3 45 := ⟨by decide +kernel, rfl⟩
theorem eX8_layOut_45 : am_d cX8_layOut 45 (.iload 4) 2 47 := ⟨by decide +kernel, rfl⟩
theorem eX8_layOut_47 : am_d cX8_layOut 47 (.iaload) 1 48 := ⟨by decide +kernel, rfl⟩
theorem eX8_layOut_48 : am_d cX8_layOut 48 (.invokevirtual 294) 3 51 := ⟨by decide +kernel, rfl⟩
theorem eX8_layOut_51 : am_d cX8_layOut 51 (.istore 5) 2 53 := ⟨by decide +kernel, rfl⟩
theorem eX8_layOut_53 : am_d cX8_layOut 53 (.iload 5) 2 55 := ⟨by decide +kernel, rfl⟩
theorem eX8_layOut_55 : am_d cX8_layOut 55 (.iconst (-1)) 1 56 := ⟨by decide +kernel, rfl⟩
theorem eX8_layOut_56 : am_b cX8_layOut 56 (.if_icmp .ne 5) (5) 59 61 := ⟨by decide +kernel, rfl, by decide⟩
theorem eX8_layOut_59 : am_d cX8_layOut 59 (.iconst (-1)) 1 60 := ⟨by decide +kernel, rfl⟩
theorem eX8_layOut_60 : am_d cX8_layOut 60 (.ireturn) 1 61 := ⟨by decide +kernel, rfl⟩
theorem eX8_layOut_61 : am_d cX8_layOut 61 (.aload_n 0) 1 62 := ⟨by decide +kernel, rfl⟩
theorem eX8_layOut_62 : am_d cX8_layOut 62 (.getfield 36) 3 65 := ⟨by decide +kernel, rfl⟩
theorem eX8_layOut_65 : am_d cX8_layOut 65 (.iload_n 3) 1 66 := ⟨by decide +kernel, rfl⟩
theorem eX8_layOut_66 : am_d cX8_layOut 66 (.iinc 3 1) 3 69 := ⟨by decide +kernel, rfl⟩
theorem eX8_layOut_69 : am_d cX8_layOut 69 (.iload 5) 2 71 := ⟨by decide +kernel, rfl⟩
theorem eX8_layOut_71 : am_d cX8_layOut 71 (.bipush 92) 2 73 := ⟨by decide +kernel, rfl⟩
theorem eX8_layOut_73 : am_d cX8_layOut 73 (.idiv) 1 74 := ⟨by decide +kernel, rfl⟩
theorem eX8_layOut_74 : am_d cX8_layOut 74 (.iastore) 1 75 := ⟨by decide +kernel, rfl⟩
theorem eX8_layOut_75 : am_d cX8_layOut 75 (.aload_n 0) 1 76 := ⟨by decide +kernel, rfl⟩
theorem eX8_layOut_76 : am_d cX8_layOut 76 (.getfield 36) 3 79 := ⟨by decide +kernel, rfl⟩
theorem eX8_layOut_79 : am_d cX8_layOut 79 (.iload_n 3) 1 80 := ⟨by decide +kernel, rfl⟩
theorem eX8_layOut_80 : am_d cX8_layOut 80 (.iinc 3 1) 3 83 := ⟨by decide +kernel, rfl⟩
theorem eX8_layOut_83 : am_d cX8_layOut 83 (.iload 5) 2 85 := ⟨by decide +kernel, rfl⟩
theorem eX8_layOut_85 : am_d cX8_layOut 85 (.bipush 92) 2 87 := ⟨by decide +kernel, rfl⟩
theorem eX8_layOut_87 : am_d cX8_layOut 87 (.irem) 1 88 := ⟨by decide +kernel, rfl⟩
theorem eX8_layOut_88 : am_d cX8_layOut 88 (.iastore) 1 89 := ⟨by decide +kernel, rfl⟩
theorem eX8_layOut_89 : am_d cX8_layOut 89 (.iinc 4 1) 3 92 := ⟨by decide +kernel, rfl⟩
theorem eX8_layOut_92 : am_b cX8_layOut 92 (.goto (-61)) (-61) 95 31 := ⟨by decide +kernel, rfl, by decide⟩
theorem eX8_layOut_95 : am_d cX8_layOut 95 (.aload_n 0) 1 96 := ⟨by decide +kernel, rfl⟩
theorem eX8_layOut_96 : am_d cX8_layOut 96 (.getfield 36) 3 99 := ⟨by decide +kernel, rfl⟩
theorem eX8_layOut_99 : am_d cX8_layOut 99 (.iload_n 3) 1 100 := ⟨by decide +kernel, rfl⟩
theorem eX8_layOut_100 : am_d cX8_layOut 100 (.iinc 3 1) 3 103 := ⟨by decide +kernel, rfl⟩
theorem eX8_layOut_103 : am_d cX8_layOut 103 (.bipush 93) 2 105 := ⟨by decide +kernel, rfl⟩
theorem eX8_layOut_105 : am_d cX8_layOut 105 (.iastore) 1 106 := ⟨by decide +kernel, rfl⟩
theorem eX8_layOut_106 : am_d cX8_layOut 106 (.iload_n 3) 1 107 := ⟨by decide +kernel, rfl⟩
theorem eX8_layOut_107 : am_d cX8_layOut 107 (.ireturn) 1 108 := ⟨by decide +kernel, rfl⟩
theorem eX8_passOne_0 : am_d cX8_passOne 0 (.aload_n 0) 1 1 := ⟨by decide +kernel, rfl⟩
theorem eX8_passOne_1 : am_d cX8_passOne 1 (.dup) 1 2 := ⟨by decide +kernel, rfl⟩
theorem eX8_passOne_2 : am_d cX8_passOne 2 (.getfield 21) 3 5 := ⟨by decide +kernel, rfl⟩
theorem eX8_passOne_5 : am_d cX8_passOne 5 (.iconst 1) 1 6 := ⟨by decide +kernel, rfl⟩
theorem eX8_passOne_6 : am_d cX8_passOne 6 (.iadd) 1 7 := ⟨by decide +kernel, rfl⟩
theorem eX8_passOne_7 : am_d cX8_passOne 7 (.putfield 21) 3 10 := ⟨by decide +kernel, rfl⟩
theorem eX8_passOne_10 : am_d cX8_passOne 10 (.iconst 0) 1 11 := ⟨by decide +kernel, rfl⟩
theorem eX8_passOne_11 : am_d cX8_passOne 11 (.istore_n 1) 1 12 := ⟨by decide +kernel, rfl⟩
theorem eX8_passOne_12 : am_d cX8_passOne 12 (.iload_n 1) 1 13 := ⟨by decide +kernel, rfl⟩
theorem eX8_passOne_13 : am_d cX8_passOne 13 (.aload_n 0) 1 14 := ⟨by decide +kernel, rfl⟩
theorem eX8_passOne_14 : am_d cX8_passOne 14 (.getfield 66) 3 17 := ⟨by decide +kernel, rfl⟩
theorem eX8_passOne_17 : am_b cX8_passOne 17 (.if_icmp .ge 21) (21) 20 38 := ⟨by decide +kernel, rfl, by decide⟩
theorem eX8_passOne_20 : am_d cX8_passOne 20 (.aload_n 0) 1 21 := ⟨by decide +kernel, rfl⟩
theorem eX8_passOne_21 : am_d cX8_passOne 21 (.iload_n 1) 1 22 := ⟨by decide +kernel, rfl⟩
theorem eX8_passOne_22 : am_d cX8_passOne 22 (.iconst 1) 1 23 := ⟨by decide +kernel, rfl⟩
theorem eX8_passOne_23 : am_d cX8_passOne 23 (.invokevirtual 297) 3 26 := ⟨by decide +kernel, rfl⟩
theorem eX8_passOne_26 : am_d cX8_passOne 26 (.aload_n 0) 1 27 := ⟨by decide +kernel, rfl⟩
theorem eX8_passOne_27 : am_d cX8_passOne 27 (.iload_n 1) 1 28 := ⟨by decide +kernel, rfl⟩
theorem eX8_passOne_28 : am_d cX8_passOne 28 (.iconst 0) 1 29 := ⟨by decide +kernel, rfl⟩
theorem eX8_passOne_29 : am_d cX8_passOne 29 (.invokevirtual 297) 3 32 := ⟨by decide +kernel, rfl⟩
theorem eX8_passOne_32 : am_d cX8_passOne 32 (.iinc 1 1) 3 35 := ⟨by decide +kernel, rfl⟩
theorem eX8_passOne_35 : am_b cX8_passOne 35 (.goto (-23)) (-23) 38 12 := ⟨by decide +kernel, rfl, by decide⟩
theorem eX8_passOne_38 : am_d cX8_passOne 38 (.iconst 0) 1 39 := ⟨by decide +kernel, rfl⟩
theorem eX8_passOne_39 : am_d cX8_passOne 39 (.istore_n 1) 1 40 := ⟨by decide +kernel, rfl⟩
theorem eX8_passOne_40 : am_d cX8_passOne 40 (.iload_n 1) 1 41 := ⟨by decide +kernel, rfl⟩
theorem eX8_passOne_41 : am_d cX8_passOne 41 (.aload_n 0) 1 42 := ⟨by decide +kernel, rfl⟩
theorem eX8_passOne_42 : am_d cX8_passOne 42 (.getfield 66) 3 45 := ⟨by decide +kernel, rfl⟩
theorem eX8_passOne_45 : am_b cX8_passOne 45 (.if_icmp .ge 21) (21) 48 66 := ⟨by decide +kernel, rfl, by decide⟩
theorem eX8_passOne_48 : am_d cX8_passOne 48 (.aload_n 0) 1 49 := ⟨by decide +kernel, rfl⟩
theorem eX8_passOne_49 : am_d cX8_passOne 49 (.iload_n 1) 1 50 := ⟨by decide +kernel, rfl⟩
theorem eX8_passOne_50 : am_d cX8_passOne 50 (.iconst 1) 1 51 := ⟨by decide +kernel, rfl⟩
theorem eX8_passOne_51 : am_d cX8_passOne 51 (.invokevirtual 301) 3 54 := ⟨by decide +kernel, rfl⟩
theorem eX8_passOne_54 : am_d cX8_passOne 54 (.aload_n 0) 1 55 := ⟨by decide +kernel, rfl⟩
theorem eX8_passOne_55 : am_d cX8_passOne 55 (.iload_n 1) 1 56 := ⟨by decide +kernel, rfl⟩
theorem eX8_passOne_56 : am_d cX8_passOne 56 (.iconst 0) 1 57 := ⟨by decide +kernel, rfl⟩
theorem eX8_passOne_57 : am_d cX8_passOne 57 (.invokevirtual 301) 3 60 := ⟨by decide +kernel, rfl⟩
theorem eX8_passOne_60 : am_d cX8_passOne 60 (.iinc 1 1) 3 63 := ⟨by decide +kernel, rfl⟩
theorem eX8_passOne_63 : am_b cX8_passOne 63 (.goto (-23)) (-23) 66 40 := ⟨by decide +kernel, rfl, by decide⟩
theorem eX8_passOne_66 : am_d cX8_passOne 66 (.return_) 1 67 := ⟨by decide +kernel, rfl⟩
theorem eX8_look_0 : am_d cX8_look 0 (.iload_n 2) 1 1 := ⟨by decide +kernel, rfl⟩
theorem eX8_look_1 : am_b cX8_look 1 (.ifCond .eq 9) (9) 4 10 := ⟨by decide +kernel, rfl, by decide⟩
theorem eX8_look_4 : am_d cX8_look 4 (.iload_n 1) 1 5 := ⟨by decide +kernel, rfl⟩
theorem eX8_look_5 : am_d cX8_look 5 (.iconst 1) 1 6 := ⟨by decide +kernel, rfl⟩
theorem eX8_look_6 : am_d cX8_look 6 (.isub) 1 7 := ⟨by decide +kernel, rfl⟩
theorem eX8_look_7 : am_b cX8_look 7 (.goto 6) (6) 10 13 := ⟨by decide +kernel, rfl, by decide⟩
theorem eX8_look_10 : am_d cX8_look 10 (.iload_n 1) 1 11 := ⟨by decide +kernel, rfl⟩
theorem eX8_look_11 : am_d cX8_look 11 (.iconst 1) 1 12 := ⟨by decide +kernel, rfl⟩
theorem eX8_look_12 : am_d cX8_look 12 (.iadd) 1 13 := ⟨by decide +kernel, rfl⟩
theorem eX8_look_13 : am_d cX8_look 13 (.istore_n 3) 1 14 := ⟨by decide +kernel, rfl⟩
theorem eX8_look_14 : am_d cX8_look 14 (.iload_n 3) 1 15 := ⟨by decide +kernel, rfl⟩
theorem eX8_look_15 : am_b cX8_look 15 (.ifCond .lt 11) (11) 18 26 := ⟨by decide +kernel, rfl, by decide⟩
theorem eX8_look_18 : am_d cX8_look 18 (.iload_n 3) 1 19 := ⟨by decide +kernel, rfl⟩
theorem eX8_look_19 : am_d cX8_look 19 (.aload_n 0) 1 20 := ⟨by decide +kernel, rfl⟩
theorem eX8_look_20 : am_d cX8_look 20 (.getfield 66) 3 23 := ⟨by decide +kernel, rfl⟩
theorem eX8_look_23 : am_b cX8_look 23 (.if_icmp .lt 4) (4) 26 27 := ⟨by decide +kernel, rfl, by decide⟩
theorem eX8_look_26 : am_d cX8_look 26 (.return_) 1 27 := ⟨by decide +kernel, rfl⟩
theorem eX8_look_27 : am_d cX8_look 27 (.aload_n 0) 1 28 := ⟨by decide +kernel, rfl⟩
theorem eX8_look_28 : am_d cX8_look 28 (.getfield 11) 3 31 := ⟨by decide +kernel, rfl⟩
theorem eX8_look_31 : am_d cX8_look 31 (.iload_n 3) 1 32 := ⟨by decide +kernel, rfl⟩
theorem eX8_look_32 : am_d cX8_look 32 (.aaload) 1 33 := ⟨by decide +kernel, rfl⟩
theorem eX8_look_33 : am_d cX8_look 33 (.iload_n 2) 1 34 := ⟨by decide +kernel, rfl⟩
theorem eX8_look_34 : am_d cX8_look 34 (.invokevirtual 171) 3 37 := ⟨by decide +kernel, rfl⟩
theorem eX8_look_37 : am_d cX8_look 37 (.astore 4) 2 39 := ⟨by decide +kernel, rfl⟩
theorem eX8_look_39 : am_d cX8_look 39 (.aload_n 0) 1 40 := ⟨by decide +kernel, rfl⟩
theorem eX8_look_40 : am_d cX8_look 40 (.getfield 11) 3 43 := ⟨by decide +kernel, rfl⟩
theorem eX8_look_43 : am_d cX8_look 43 (.iload_n 1) 1 44 := ⟨by decide +kernel, rfl⟩
theorem eX8_look_44 : am_d cX8_look 44 (.aaload) 1 45 := ⟨by decide +kernel, rfl⟩
theorem eX8_look_45 : am_d cX8_look 45 (.iload_n 2) 1 46 := ⟨by decide +kernel, rfl⟩
theorem eX8_look_46 : am_d cX8_look 46 (.invokevirtual 171) 3 49 := ⟨by decide +kernel, rfl⟩
theorem eX8_look_49 : am_d cX8_look 49 (.astore 5) 2 51 := ⟨by decide +kernel, rfl⟩
theorem eX8_look_51 : am_d cX8_look 51 (.aload_n 0) 1 52 := ⟨by decide +kernel, rfl⟩
theorem eX8_look_52 : am_d cX8_look 52 (.iload_n 1) 1 53 := ⟨by decide +kernel, rfl⟩
theorem eX8_look_53 : am_d cX8_look 53 (.iload_n 2) 1 54 := ⟨by decide +kernel, rfl⟩
theorem eX8_look_54 : am_d cX8_look 54 (.invokevirtual 175) 3 57 := ⟨by decide +kernel, rfl⟩
theorem eX8_look_57 : am_d cX8_look 57 (.istore 6) 2 59 := ⟨by decide +kernel, rfl⟩
theorem eX8_look_59 : am_d cX8_look 59 (.aload 4) 2 61 := ⟨by decide +kernel, rfl⟩
theorem eX8_look_61 : am_d cX8_look 61 (.getfield 209) 3 64 := ⟨by decide +kernel, rfl⟩
theorem eX8_look_64 : am_d cX8_look 64 (.iconst (-1)) 1 65 := ⟨by decide +kernel, rfl⟩
theorem eX8_look_65 : am_b cX8_look 65 (.if_icmp .eq 30) (30) 68 95 := ⟨by decide +kernel, rfl, by decide⟩
theorem eX8_look_68 : am_d cX8_look 68 (.iload 6) 2 70 := ⟨by decide +kernel, rfl⟩
theorem eX8_look_70 : am_b cX8_look 70 (.ifCond .ne 13) (13) 73 83 := ⟨by decide +kernel, rfl, by decide⟩
theorem eX8_look_73 : am_d cX8_look 73 (.aload 5) 2 75 := ⟨by decide +kernel, rfl⟩
theorem eX8_look_75 : am_d cX8_look 75 (.getfield 168) 3 78 := ⟨by decide +kernel, rfl⟩
theorem eX8_look_78 : am_d cX8_look 78 (.bipush 10) 2 80 := ⟨by decide +kernel, rfl⟩
theorem eX8_look_80 : am_b cX8_look 80 (.if_icmp .ge 15) (15) 83 95 := ⟨by decide +kernel, rfl, by decide⟩
theorem eX8_look_83 : am_d cX8_look 83 (.aload_n 0) 1 84 := ⟨by decide +kernel, rfl⟩
theorem eX8_look_84 : am_d cX8_look 84 (.iload_n 3) 1 85 := ⟨by decide +kernel, rfl⟩
theorem eX8_look_85 : am_d cX8_look 85 (.iload_n 1) 1 86 := ⟨by decide +kernel, rfl⟩
theorem eX8_look_86 : am_d cX8_look 86 (.invokestatic 304) 3 89 := ⟨by decide +kernel, rfl⟩
theorem eX8_look_89 : am_d cX8_look 89 (.invokevirtual 206) 3 92 := ⟨by decide +kernel, rfl⟩
theorem eX8_look_92 : am_b cX8_look 92 (.ifCond .ne 4) (4) 95 96 := ⟨by decide +kernel, rfl, by decide⟩
theorem eX8_look_95 : am_d cX8_look 95 (.return_) 1 96 := ⟨by decide +kernel, rfl⟩
theorem eX8_look_96 : am_d cX8_look 96 (.aload_n 0) 1 97 := ⟨by decide +kernel, rfl⟩
theorem eX8_look_97 : am_d cX8_look 97 (.iload_n 1) 1 98 := ⟨by decide +kernel, rfl⟩
theorem eX8_look_98 : am_d cX8_look 98 (.aload 4) 2 100 := ⟨by decide +kernel, rfl⟩
theorem eX8_look_100 : am_d cX8_look 100 (.getfield 209) 3 103 := ⟨by decide +kernel, rfl⟩
theorem eX8_look_103 : am_d cX8_look 103 (.invokevirtual 309) 3 106 := ⟨by decide +kernel, rfl⟩
theorem eX8_look_106 : am_d cX8_look 106 (.istore 7) 2 108 := ⟨by decide +kernel, rfl⟩
theorem eX8_look_108 : am_d cX8_look 108 (.aload 4) 2 110 := ⟨by decide +kernel, rfl⟩
theorem eX8_look_110 : am_d cX8_look 110 (.iconst (-1)) 1 111 := ⟨by decide +kernel, rfl⟩
theorem eX8_look_111 : am_d cX8_look 111 (.putfield 209) 3 114 := ⟨by decide +kernel, rfl⟩
theorem eX8_look_114 : am_d cX8_look 114 (.aload 5) 2 116 := ⟨by decide +kernel, rfl⟩
theorem eX8_look_116 : am_d cX8_look 116 (.getfield 185) 3 119 := ⟨by decide +kernel, rfl⟩
theorem eX8_look_119 : am_d cX8_look 119 (.aload_n 0) 1 120 := ⟨by decide +kernel, rfl⟩
theorem eX8_look_120 : am_d cX8_look 120 (.getfield 21) 3 123 := ⟨by decide +kernel, rfl⟩
theorem eX8_look_123 : am_d cX8_look 123 (.iload 7) 2 125 := ⟨by decide +kernel, rfl⟩
theorem eX8_look_125 : am_d cX8_look 125 (.iconst 0) 1 126 := ⟨by decide +kernel, rfl⟩
theorem eX8_look_126 : am_d cX8_look 126 (.invokevirtual 189) 3 129 := ⟨by decide +kernel, rfl⟩
theorem eX8_look_129 : am_d cX8_look 129 (.iload 6) 2 131 := ⟨by decide +kernel, rfl⟩
theorem eX8_look_131 : am_b cX8_look 131 (.ifCond .eq 20) (20) 134 151 := ⟨by decide +kernel, rfl, by decide⟩
theorem eX8_look_134 : am_d cX8_look 134 (.aload_n 0) 1 135 := ⟨by decide +kernel, rfl⟩
theorem eX8_look_135 : am_d cX8_look 135 (.iload_n 2) 1 136 := ⟨by decide +kernel, rfl⟩
theorem eX8_look_136 : am_d cX8_look 136 (.invokevirtual 232) 3 139 := ⟨by decide +kernel, rfl⟩
theorem eX8_look_139 : am_d cX8_look 139 (.iload 7) 2 141 := ⟨by decide +kernel, rfl⟩
theorem eX8_look_141 : am_d cX8_look 141 (.aload_n 0) 1 142 := ⟨by decide +kernel, rfl⟩
theorem eX8_look_142 : am_d cX8_look 142 (.getfield 21) 3 145 := ⟨by decide +kernel, rfl⟩
theorem eX8_look_145 : am_d cX8_look 145 (.invokevirtual 312) 3 148 := ⟨by decide +kernel, rfl⟩
theorem eX8_look_148 : am_b cX8_look 148 (.goto 11) (11) 151 159 := ⟨by decide +kernel, rfl, by decide⟩
theorem eX8_look_151 : am_d cX8_look 151 (.aload 5) 2 153 := ⟨by decide +kernel, rfl⟩
theorem eX8_look_153 : am_d cX8_look 153 (.iload 7) 2 155 := ⟨by decide +kernel, rfl⟩
theorem eX8_look_155 : am_d cX8_look 155 (.invokevirtual 179) 3 158 := ⟨by decide +kernel, rfl⟩
theorem eX8_look_158 : am_d cX8_look 158 (.pop) 1 159 := ⟨by decide +kernel, rfl⟩
theorem eX8_look_159 : am_d cX8_look 159 (.return_) 1 160 := ⟨by decide +kernel, rfl⟩
theorem eX8_signAsRead_0 : am_d cX8_signAsRead 0 (.bipush 31) 2 2 := ⟨by decide +kernel, rfl⟩
theorem eX8_signAsRead_2 : am_d cX8_signAsRead 2 (.aload_n 0) 1 3 := ⟨by decide +kernel, rfl⟩
theorem eX8_signAsRead_3 : am_d cX8_signAsRead 3 (.getfield 21) 3 6 := ⟨by decide +kernel, rfl⟩
theorem eX8_signAsRead_6 : am_d cX8_signAsRead 6 (.imul) 1 7 := ⟨by decide +kernel, rfl⟩
theorem eX8_signAsRead_7 : am_d cX8_signAsRead 7 (.bipush 17) 2 9 := ⟨by decide +kernel, rfl⟩
theorem eX8_signAsRead_9 : am_d cX8_signAsRead 9 (.iload_n 1) 1 10 := ⟨by decide +kernel, rfl⟩
theorem eX8_signAsRead_10 : am_d cX8_signAsRead 10 (.imul) 1 11 := ⟨by decide +kernel, rfl⟩
theorem eX8_signAsRead_11 : am_d cX8_signAsRead 11 (.iadd) 1 12 := ⟨by decide +kernel, rfl⟩
theorem eX8_signAsRead_12 : am_d cX8_signAsRead 12 (.bipush 7) 2 14 := ⟨by decide +kernel, rfl⟩
theorem eX8_signAsRead_14 : am_d cX8_signAsRead 14 (.iload_n 2) 1 15 := ⟨by decide +kernel, rfl⟩
theorem eX8_signAsRead_15 : am_d cX8_signAsRead 15 (.imul) 1 16 := ⟨by decide +kernel, rfl⟩
theorem eX8_signAsRead_16 : am_d cX8_signAsRead 16 (.iadd) 1 17 := ⟨by decide +kernel, rfl⟩
theorem eX8_signAsRead_17 : am_d cX8_signAsRead 17 (.aload_n 0) 1 18 := ⟨by decide +kernel, rfl⟩
theorem eX8_signAsRead_18 : am_d cX8_signAsRead 18 (.getfield 116) 3 21 := ⟨by decide +kernel, rfl⟩
theorem eX8_signAsRead_21 : am_d cX8_signAsRead 21 (.iadd) 1 22 := ⟨by decide +kernel, rfl⟩
theorem eX8_signAsRead_22 : am_d cX8_signAsRead 22 (.sipush 1009) 3 25 := ⟨by decide +kernel, rfl⟩
theorem eX8_signAsRead_25 : am_d cX8_signAsRead 25 (.irem) 1 26 := ⟨by decide +kernel, rfl⟩
theorem eX8_signAsRead_26 : am_d cX8_signAsRead 26 (.istore_n 3) 1 27 := ⟨by decide +kernel, rfl⟩
theorem eX8_signAsRead_27 : am_d cX8_signAsRead 27 (.iload_n 3) 1 28 := ⟨by decide +kernel, rfl⟩
theorem eX8_signAsRead_28 : am_d cX8_signAsRead 28 (.aload_n 0) 1 29 := ⟨by decide +kernel, rfl⟩
theorem eX8_signAsRead_29 : am_d cX8_signAsRead 29 (.getfield 11) 3 32 := ⟨by decide +kernel, rfl⟩
theorem eX8_signAsRead_32 : am_d cX8_signAsRead 32 (.iload_n 1) 1 33 := ⟨by decide +kernel, rfl⟩
theorem eX8_signAsRead_33 : am_d cX8_signAsRead 33 (.aaload) 1 34 := ⟨by decide +kernel, rfl⟩
theorem eX8_signAsRead_34 : am_d cX8_signAsRead 34 (.getfield 111) 3 37 := ⟨by decide +kernel, rfl⟩
theorem eX8_signAsRead_37 : am_b cX8_signAsRead 37 (.if_icmp .ge 9) (9) 40 46 := ⟨by decide +kernel, rfl, by decide⟩
theorem eX8_signAsRead_40 : am_d cX8_signAsRead 40 (.iload_n 2) 1 41 := ⟨by decide +kernel, rfl⟩
theorem eX8_signAsRead_41 : am_d cX8_signAsRead 41 (.bipush 92) 2 43 := ⟨by decide +kernel, rfl⟩
theorem eX8_signAsRead_43 : am_b cX8_signAsRead 43 (.if_icmp .lt 5) (5) 46 48 := ⟨by decide +kernel, rfl, by decide⟩
theorem eX8_signAsRead_46 : am_d cX8_signAsRead 46 (.iload_n 2) 1 47 := ⟨by decide +kernel, rfl⟩
theorem eX8_signAsRead_47 : am_d cX8_signAsRead 47 (.ireturn) 1 48 := ⟨by decide +kernel, rfl⟩
theorem eX8_signAsRead_48 : am_d cX8_signAsRead 48 (.iload_n 2) 1 49 := ⟨by decide +kernel, rfl⟩
theorem eX8_signAsRead_49 : am_d cX8_signAsRead 49 (.iconst 2) 1 50 := ⟨by decide +kernel, rfl⟩
theorem eX8_signAsRead_50 : am_d cX8_signAsRead 50 (.irem) 1 51 := ⟨by decide +kernel, rfl⟩
theorem eX8_signAsRead_51 : am_b cX8_signAsRead 51 (.ifCond .ne 9) (9) 54 60 := ⟨by decide +kernel, rfl, by decide⟩
theorem eX8_signAsRead_54 : am_d cX8_signAsRead 54 (.iload_n 2) 1 55 := ⟨by decide +kernel, rfl⟩
theorem eX8_signAsRead_55 : am_d cX8_signAsRead 55 (.iconst 1) 1 56 := ⟨by decide +kernel, rfl⟩
theorem eX8_signAsRead_56 : am_d cX8_signAsRead 56 (.iadd) 1 57 := ⟨by decide +kernel, rfl⟩
theorem eX8_signAsRead_57 : am_b cX8_signAsRead 57 (.goto 6) (6) 60 63 := ⟨by decide +kernel, rfl, by decide⟩
theorem eX8_signAsRead_60 : am_d cX8_signAsRead 60 (.iload_n 2) 1 61 := ⟨by decide +kernel, rfl⟩
theorem eX8_signAsRead_61 : am_d cX8_signAsRead 61 (.iconst 1) 1 62 := ⟨by decide +kernel, rfl⟩
theorem eX8_signAsRead_62 : am_d cX8_signAsRead 62 (.isub) 1 63 := ⟨by decide +kernel, rfl⟩
theorem eX8_signAsRead_63 : am_d cX8_signAsRead 63 (.ireturn) 1 64 := ⟨by decide +kernel, rfl⟩
theorem eX8_showNext_0 : am_d cX8_showNext 0 (.aload_n 0) 1 1 := ⟨by decide +kernel, rfl⟩
theorem eX8_showNext_1 : am_d cX8_showNext 1 (.getfield 11) 3 4 := ⟨by decide +kernel, rfl⟩
theorem eX8_showNext_4 : am_d cX8_showNext 4 (.iload_n 1) 1 5 := ⟨by decide +kernel, rfl⟩
theorem eX8_showNext_5 : am_d cX8_showNext 5 (.aaload) 1 6 := ⟨by decide +kernel, rfl⟩
theorem eX8_showNext_6 : am_d cX8_showNext 6 (.iload_n 2) 1 7 := ⟨by decide +kernel, rfl⟩
theorem eX8_showNext_7 : am_d cX8_showNext 7 (.invokevirtual 171) 3 10 := ⟨by decide +kernel, rfl⟩
theorem eX8_showNext_10 : am_d cX8_showNext 10 (.astore_n 3) 1 11 := ⟨by decide +kernel, rfl⟩
theorem eX8_showNext_11 : am_d cX8_showNext 11 (.aload_n 0) 1 12 := ⟨by decide +kernel, rfl⟩
theorem eX8_showNext_12 : am_d cX8_showNext 12 (.iload_n 1) 1 13 := ⟨by decide +kernel, rfl⟩
theorem eX8_showNext_13 : am_d cX8_showNext 13 (.iload_n 2) 1 14 := ⟨by decide +kernel, rfl⟩
theorem eX8_showNext_14 : am_d cX8_showNext 14 (.invokevirtual 175) 3 17 := ⟨by decide +kernel, rfl⟩
theorem eX8_showNext_17 : am_b cX8_showNext 17 (.ifCond .ne 11) (11) 20 28 := ⟨by decide +kernel, rfl, by decide⟩
theorem eX8_showNext_20 : am_d cX8_showNext 20 (.aload_n 3) 1 21 := ⟨by decide +kernel, rfl⟩
theorem eX8_showNext_21 : am_d cX8_showNext 21 (.getfield 209) 3 24 := ⟨by decide +kernel, rfl⟩
theorem eX8_showNext_24 : am_d cX8_showNext 24 (.iconst (-1)) 1 25 := ⟨by decide +kernel, rfl⟩
theorem eX8_showNext_25 : am_b cX8_showNext 25 (.if_icmp .eq 4) (4) 28 29 := ⟨by decide +kernel, rfl, by decide⟩
theorem eX8_showNext_28 : am_d cX8_showNext 28 (.return_) 1 29 := ⟨by decide +kernel, rfl⟩
theorem eX8_showNext_29 : am_d cX8_showNext 29 (.aload_n 3) 1 30 := ⟨by decide +kernel, rfl⟩
theorem eX8_showNext_30 : am_d cX8_showNext 30 (.aload_n 3) 1 31 := ⟨by decide +kernel, rfl⟩
theorem eX8_showNext_31 : am_d cX8_showNext 31 (.invokevirtual 316) 3 34 := ⟨by decide +kernel, rfl⟩
theorem eX8_showNext_34 : am_d cX8_showNext 34 (.putfield 209) 3 37 := ⟨by decide +kernel, rfl⟩
theorem eX8_showNext_37 : am_d cX8_showNext 37 (.iload_n 2) 1 38 := ⟨by decide +kernel, rfl⟩
theorem eX8_showNext_38 : am_b cX8_showNext 38 (.ifCond .eq 20) (20) 41 58 := ⟨by decide +kernel, rfl, by decide⟩
theorem eX8_showNext_41 : am_d cX8_showNext 41 (.aload_n 3) 1 42 := ⟨by decide +kernel, rfl⟩
theorem eX8_showNext_42 : am_d cX8_showNext 42 (.getfield 209) 3 45 := ⟨by decide +kernel, rfl⟩
theorem eX8_showNext_45 : am_d cX8_showNext 45 (.iconst (-1)) 1 46 := ⟨by decide +kernel, rfl⟩
theorem eX8_showNext_46 : am_b cX8_showNext 46 (.if_icmp .eq 12) (12) 49 58 := ⟨by decide +kernel, rfl, by decide⟩
theorem eX8_showNext_49 : am_d cX8_showNext 49 (.aload_n 0) 1 50 := ⟨by decide +kernel, rfl⟩
theorem eX8_showNext_50 : am_d cX8_showNext 50 (.iload_n 1) 1 51 := ⟨by decide +kernel, rfl⟩
theorem eX8_showNext_51 : am_d cX8_showNext 51 (.aload_n 3) 1 52 := ⟨by decide +kernel, rfl⟩
theorem eX8_showNext_52 : am_d cX8_showNext 52 (.getfield 209) 3 55 := ⟨by decide +kernel, rfl⟩
theorem eX8_showNext_55 : am_d cX8_showNext 55 (.invokevirtual 319) 3 58 := ⟨by decide +kernel, rfl⟩
theorem eX8_showNext_58 : am_d cX8_showNext 58 (.return_) 1 59 := ⟨by decide +kernel, rfl⟩
theorem eX8_tellSpies_0 : am_d cX8_tellSpies 0 (.iload_n 2) 1 1 := ⟨by decide +kernel, rfl⟩
theorem eX8_tellSpies_1 : am_d cX8_tellSpies 1 (.bipush 92) 2 3 := ⟨by decide +kernel, rfl⟩
theorem eX8_tellSpies_3 : am_b cX8_tellSpies 3 (.if_icmp .ge 23) (23) 6 26 := ⟨by decide +kernel, rfl, by decide⟩
theorem eX8_tellSpies_6 : am_d cX8_tellSpies 6 (.aload_n 0) 1 7 := ⟨by decide +kernel, rfl⟩
theorem eX8_tellSpies_7 : am_d cX8_tellSpies 7 (.invokevirtual 284) 3 10 := ⟨by decide +kernel, rfl⟩
theorem eX8_tellSpies_10 : am_b cX8_tellSpies 10 (.ifCond .eq 16) (16) 13 26 := ⟨by decide +kernel, rfl, by decide⟩
theorem eX8_tellSpies_13 : am_d cX8_tellSpies 13 (.aload_n 0) 1 14 := ⟨by decide +kernel, rfl⟩
theorem eX8_tellSpies_14 : am_d cX8_tellSpies 14 (.getfield 17) 3 17 := ⟨by decide +kernel, rfl⟩
theorem eX8_tellSpies_17 : am_d cX8_tellSpies 17 (.iload_n 1) 1 18 := ⟨by decide +kernel, rfl⟩
theorem eX8_tellSpies_18 : am_d cX8_tellSpies 18 (.aaload) 1 19 := ⟨by decide +kernel, rfl⟩
theorem eX8_tellSpies_19 : am_d cX8_tellSpies 19 (.getfield 102) 3 22 := ⟨by decide +kernel, rfl⟩
theorem eX8_tellSpies_22 : am_d cX8_tellSpies 22 (.iconst 2) 1 23 := ⟨by decide +kernel, rfl⟩
theorem eX8_tellSpies_23 : am_b cX8_tellSpies 23 (.if_icmp .ne 4) (4) 26 27 := ⟨by decide +kernel, rfl, by decide⟩
theorem eX8_tellSpies_26 : am_d cX8_tellSpies 26 (.return_) 1 27 := ⟨by decide +kernel, rfl⟩
theorem eX8_tellSpies_27 : am_d cX8_tellSpies 27 (.iconst 0) 1 28 := ⟨by decide +kernel, rfl⟩
theorem eX8_tellSpies_28 : am_d cX8_tellSpies 28 (.istore_n 3) 1 29 := ⟨by decide +kernel, rfl⟩
theorem eX8_tellSpies_29 : am_d cX8_tellSpies 29 (.iload_n 3) 1 30 := ⟨by decide +kernel, rfl⟩
theorem eX8_tellSpies_30 : am_d cX8_tellSpies 30 (.aload_n 0) 1 31 := ⟨by decide +kernel, rfl⟩
theorem eX8_tellSpies_31 : am_d cX8_tellSpies 31 (.getfield 195) 3 34 := ⟨by decide +kernel, rfl⟩
theorem eX8_tellSpies_34 : am_b cX8_tellSpies 34 (.if_icmp .ge 32) (32) 37 66 := ⟨by decide +kernel, rfl, by decide⟩
theorem eX8_tellSpies_37 : am_d cX8_tellSpies 37 (.aload_n 0) 1 38 := ⟨by decide +kernel, rfl⟩
theorem eX8_tellSpies_38 : am_d cX8_tellSpies 38 (.getfield 51) 3 41 := ⟨by decide +kernel, rfl⟩
theorem eX8_tellSpies_41 : am_d cX8_tellSpies 41 (.iload_n 3) 1 42 := ⟨by decide +kernel, rfl⟩
theorem eX8_tellSpies_42 : am_d cX8_tellSpies 42 (.aaload) 1 43 := ⟨by decide +kernel, rfl⟩
theorem eX8_tellSpies_43 : am_d cX8_tellSpies 43 (.getfield 322) 3 46 := ⟨by decide +kernel, rfl⟩
theorem eX8_tellSpies_46 : am_d cX8_tellSpies 46 (.iload_n 1) 1 47 := ⟨by decide +kernel, rfl⟩
theorem eX8_tellSpies_47 : am_b cX8_tellSpies 47 (.if_icmp .ne 13) (13) 50 60 := ⟨by decide +kernel, rfl, by decide⟩
theorem eX8_tellSpies_50 : am_d cX8_tellSpies 50 (.aload_n 0) 1 51 := ⟨by decide +kernel, rfl⟩
theorem eX8_tellSpies_51 : am_d cX8_tellSpies 51 (.getfield 51) 3 54 := ⟨by decide +kernel, rfl⟩
theorem eX8_tellSpies_54 : am_d cX8_tellSpies 54 (.iload_n 3) 1 55 := ⟨by decide +kernel, rfl⟩
theorem eX8_tellSpies_55 : am_d cX8_tellSpies 55 (.aaload) 1 56 := ⟨by decide +kernel, rfl⟩
theorem eX8_tellSpies_56 : am_d cX8_tellSpies 56 (.iload_n 2) 1 57 := ⟨by decide +kernel, rfl⟩
theorem eX8_tellSpies_57 : am_d cX8_tellSpies 57 (.invokevirtual 325) 3 60 := ⟨by decide +kernel, rfl⟩
theorem eX8_tellSpies_60 : am_d cX8_tellSpies 60 (.iinc 3 1) 3 63 := ⟨by decide +kernel, rfl⟩
theorem eX8_tellSpies_63 : am_b cX8_tellSpies 63 (.goto (-34)) (-34) 66 29 := ⟨by decide +kernel, rfl, by decide⟩
theorem eX8_tellSpies_66 : am_d cX8_tellSpies 66 (.return_) 1 67 := ⟨by decide +kernel, rfl⟩
theorem eX8_firstUnlike_0 : am_d cX8_firstUnlike 0 (.aload_n 0) 1 1 := ⟨by decide +kernel, rfl⟩
theorem eX8_firstUnlike_1 : am_d cX8_firstUnlike 1 (.iconst 0) 1 2 := ⟨by decide +kernel, rfl⟩
theorem eX8_firstUnlike_2 : am_d cX8_firstUnlike 2 (.invokevirtual 328) 3 5 := ⟨by decide +kernel, rfl⟩
theorem eX8_firstUnlike_5 : am_d cX8_firstUnlike 5 (.istore_n 2) 1 6 := ⟨by decide +kernel, rfl⟩
theorem eX8_firstUnlike_6 : am_d cX8_firstUnlike 6 (.aload_n 1) 1 7 := ⟨by decide +kernel, rfl⟩
theorem eX8_firstUnlike_7 : am_d cX8_firstUnlike 7 (.iconst 0) 1 8 := ⟨by decide +kernel, rfl⟩
theorem eX8_firstUnlike_8 : am_d cX8_firstUnlike 8 (.invokevirtual 328) 3 11 := ⟨by decide +kernel, rfl⟩
theorem eX8_firstUnlike_11 : am_d cX8_firstUnlike 11 (.istore_n 3) 1 12 := ⟨by decide +kernel, rfl⟩
theorem eX8_firstUnlike_12 : am_d cX8_firstUnlike 12 (.iconst 0) 1 13 := ⟨by decide +kernel, rfl⟩
theorem eX8_firstUnlike_13 : am_d cX8_firstUnlike 13 (.istore 4) 2 15 := ⟨by decide +kernel, rfl⟩
theorem eX8_firstUnlike_15 : am_d cX8_firstUnlike 15 (.iload 4) 2 17 := ⟨by decide +kernel, rfl⟩
theorem eX8_firstUnlike_17 : am_d cX8_firstUnlike 17 (.sipush 300) 3 20 := ⟨by decide +kernel, rfl⟩
theorem eX8_firstUnlike_20 : am_b cX8_firstUnlike 20 (.if_icmp .ge 61) (61) 23 81 := ⟨by decide +kernel, rfl, by decide⟩
theorem eX8_firstUnlike_23 : am_d cX8_firstUnlike 23 (.iload_n 2) 1 24 := ⟨by decide +kernel, rfl⟩
theorem eX8_firstUnlike_24 : am_d cX8_firstUnlike 24 (.aload_n 0) 1 25 := ⟨by decide +kernel, rfl⟩
theorem eX8_firstUnlike_25 : am_d cX8_firstUnlike 25 (.getfield 220) 3 28 := ⟨by decide +kernel, rfl⟩
theorem eX8_firstUnlike_28 : am_b cX8_firstUnlike 28 (.if_icmp .ge 11) (11) 31 39 := ⟨by decide +kernel, rfl, by decide⟩
theorem eX8_firstUnlike_31 : am_d cX8_firstUnlike 31 (.iload_n 3) 1 32 := ⟨by decide +kernel, rfl⟩
theorem eX8_firstUnlike_32 : am_d cX8_firstUnlike 32 (.aload_n 1) 1 33 := ⟨by decide +kernel, rfl⟩
theorem eX8_firstUnlike_33 : am_d cX8_firstUnlike 33 (.getfield 220) 3 36 := ⟨by decide +kernel, rfl⟩
theorem eX8_firstUnlike_36 : am_b cX8_firstUnlike 36 (.if_icmp .lt 5) (5) 39 41 := ⟨by decide +kernel, rfl, by decide⟩
theorem eX8_firstUnlike_39 : am_d cX8_firstUnlike 39 (.iconst (-1)) 1 40 := ⟨by decide +kernel, rfl⟩
theorem eX8_firstUnlike_40 : am_d cX8_firstUnlike 40 (.ireturn) 1 41 := ⟨by decide +kernel, rfl⟩
theorem eX8_firstUnlike_41 : am_d cX8_firstUnlike 41 (.aload_n 0) 1 42 := ⟨by decide +kernel, rfl⟩
theorem eX8_firstUnlike_42 : am_d cX8_firstUnlike 42 (.getfield 331) 3 45 := ⟨by decide +kernel, rfl⟩
theorem eX8_firstUnlike_45 : am_d cX8_firstUnlike 45 (.iload_n 2) 1 46 := ⟨by decide +kernel, rfl⟩
theorem eX8_firstUnlike_46 : am_d cX8_firstUnlike 46 (.iaload) 1 47 := ⟨by decide +kernel, rfl⟩
theorem eX8_firstUnlike_47 : am_d cX8_firstUnlike 47 (.aload_n 1) 1 48 := ⟨by decide +kernel, rfl⟩
theorem eX8_firstUnlike_48 : am_d cX8_firstUnlike 48 (.getfield 331) 3 51 := ⟨by decide +kernel, rfl⟩
theorem eX8_firstUnlike_51 : am_d cX8_firstUnlike 51 (.iload_n 3) 1 52 := ⟨by decide +kernel, rfl⟩
theorem eX8_firstUnlike_52 : am_d cX8_firstUnlike 52 (.iaload) 1 53 := ⟨by decide +kernel, rfl⟩
theorem eX8_firstUnlike_53 : am_b cX8_firstUnlike 53 (.if_icmp .eq 6) (6) 56 59 := ⟨by decide +kernel, rfl, by decide⟩
theorem eX8_firstUnlike_56 : am_d cX8_firstUnlike 56 (.iload 4) 2 58 := ⟨by decide +kernel, rfl⟩
theorem eX8_firstUnlike_58 : am_d cX8_firstUnlike 58 (.ireturn) 1 59 := ⟨by decide +kernel, rfl⟩
theorem eX8_firstUnlike_59 : am_d cX8_firstUnlike 59 (.aload_n 0) 1 60 := ⟨by decide +kernel, rfl⟩
theorem eX8_firstUnlike_60 : am_d cX8_firstUnlike 60 (.iload_n 2) 1 61 := ⟨by decide +kernel, rfl⟩
theorem eX8_firstUnlike_61 : am_d cX8_firstUnlike 61 (.iconst 1) 1 62 := ⟨by decide +kernel, rfl⟩
theorem eX8_firstUnlike_62 : am_d cX8_firstUnlike 62 (.iadd) 1 63 := ⟨by decide +kernel, rfl⟩
theorem eX8_firstUnlike_63 : am_d cX8_firstUnlike 63 (.invokevirtual 328) 3 66 := ⟨by decide +kernel, rfl⟩
theorem eX8_firstUnlike_66 : am_d cX8_firstUnlike 66 (.istore_n 2) 1 67 := ⟨by decide +kernel, rfl⟩
theorem eX8_firstUnlike_67 : am_d cX8_firstUnlike 67 (.aload_n 1) 1 68 := ⟨by decide +kernel, rfl⟩
theorem eX8_firstUnlike_68 : am_d cX8_firstUnlike 68 (.iload_n 3) 1 69 := ⟨by decide +kernel, rfl⟩
theorem eX8_firstUnlike_69 : am_d cX8_firstUnlike 69 (.iconst 1) 1 70 := ⟨by decide +kernel, rfl⟩
theorem eX8_firstUnlike_70 : am_d cX8_firstUnlike 70 (.iadd) 1 71 := ⟨by decide +kernel, rfl⟩
theorem eX8_firstUnlike_71 : am_d cX8_firstUnlike 71 (.invokevirtual 328) 3 74 := ⟨by decide +kernel, rfl⟩
theorem eX8_firstUnlike_74 : am_d cX8_firstUnlike 74 (.istore_n 3) 1 75 := ⟨by decide +kernel, rfl⟩
theorem eX8_firstUnlike_75 : am_d cX8_firstUnlike 75 (.iinc 4 1) 3 78 := ⟨by decide +kernel, rfl⟩
theorem eX8_firstUnlike_78 : am_b cX8_firstUnlike 78 (.goto (-63)) (-63) 81 15 := ⟨by decide +kernel, rfl, by decide⟩
theorem eX8_firstUnlike_81 : am_d cX8_firstUnlike 81 (.iconst (-1)) 1 82 := ⟨by decide +kernel, rfl⟩
theorem eX8_firstUnlike_82 : am_d cX8_firstUnlike 82 (.ireturn) 1 83 := ⟨by decide +kernel, rfl⟩
theorem eX8_minutesOfTrial_0 : am_d cX8_minutesOfTrial 0 (.bipush 12) 2 2 := ⟨by decide +kernel, rfl⟩
theorem eX8_minutesOfTrial_2 : am_d cX8_minutesOfTrial 2 (.newarray .int) 2 4 := ⟨by decide +kernel, rfl⟩
theorem eX8_minutesOfTrial_4 : am_d cX8_minutesOfTrial 4 (.astore_n 2) 1 5 := ⟨by decide +kernel, rfl⟩
theorem eX8_minutesOfTrial_5 : am_d cX8_minutesOfTrial 5 (.bipush 12) 2 7 := ⟨by decide +kernel, rfl⟩
theorem eX8_minutesOfTrial_7 : am_d cX8_minutesOfTrial 7 (.newarray .boolean) 2 9 := ⟨by decide +kernel, rfl⟩
theorem eX8_minutesOfTrial_9 : am_d cX8_minutesOfTrial 9 (.astore_n 3) 1 10 := ⟨by decide +kernel, rfl⟩
theorem eX8_minutesOfTrial_10 : am_d cX8_minutesOfTrial 10 (.aload_n 2) 1 11 := ⟨by decide +kernel, rfl⟩
theorem eX8_minutesOfTrial_11 : am_d cX8_minutesOfTrial 11 (.iconst 0) 1 12 := ⟨by decide +kernel, rfl⟩
theorem eX8_minutesOfTrial_12 : am_d cX8_minutesOfTrial 12 (.iload_n 0) 1 13 := ⟨by decide +kernel, rfl⟩
theorem eX8_minutesOfTrial_13 : am_d cX8_minutesOfTrial 13 (.iastore) 1 14 := ⟨by decide +kernel, rfl⟩
theorem eX8_minutesOfTrial_14 : am_d cX8_minutesOfTrial 14 (.iconst 1) 1 15 := ⟨by decide +kernel, rfl⟩
theorem eX8_minutesOfTrial_15 : am_d cX8_minutesOfTrial 15 (.istore 4) 2 17 := ⟨by decide +kernel, rfl⟩
theorem eX8_minutesOfTrial_17 : am_d cX8_minutesOfTrial 17 (.iload 4) 2 19 := ⟨by decide +kernel, rfl⟩
theorem eX8_minutesOfTrial_19 : am_d cX8_minutesOfTrial 19 (.ldc_w 332) 3 22 := ⟨by decide +kernel, rfl⟩
theorem eX8_minutesOfTrial_22 : am_b cX8_minutesOfTrial 22 (.if_icmp .gt 25) (25) 25 47 := ⟨by decide +kernel, rfl, by decide⟩
theorem eX8_minutesOfTrial_25 : am_d cX8_minutesOfTrial 25 (.aload_n 2) 1 26 := ⟨by decide +kernel, rfl⟩
theorem eX8_minutesOfTrial_26 : am_d cX8_minutesOfTrial 26 (.aload_n 3) 1 27 := ⟨by decide +kernel, rfl⟩
theorem eX8_minutesOfTrial_27 : am_d cX8_minutesOfTrial 27 (.iload_n 1) 1 28 := ⟨by decide +kernel, rfl⟩
theorem eX8_minutesOfTrial_28 : am_d cX8_minutesOfTrial 28 (.invokestatic 333) 3 31 := ⟨by decide +kernel, rfl⟩
theorem eX8_minutesOfTrial_31 : am_d cX8_minutesOfTrial 31 (.aload_n 2) 1 32 := ⟨by decide +kernel, rfl⟩
theorem eX8_minutesOfTrial_32 : am_d cX8_minutesOfTrial 32 (.iload_n 1) 1 33 := ⟨by decide +kernel, rfl⟩
theorem eX8_minutesOfTrial_33 : am_d cX8_minutesOfTrial 33 (.iaload) 1 34 := ⟨by decide +kernel, rfl⟩
theorem eX8_minutesOfTrial_34 : am_d cX8_minutesOfTrial 34 (.iload_n 0) 1 35 := ⟨by decide +kernel, rfl⟩
theorem eX8_minutesOfTrial_35 : am_b cX8_minutesOfTrial 35 (.if_icmp .ne 6) (6) 38 41 := ⟨by decide +kernel, rfl, by decide⟩
theorem eX8_minutesOfTrial_38 : am_d cX8_minutesOfTrial 38 (.iload 4) 2 40 := ⟨by decide +kernel, rfl⟩
theorem eX8_minutesOfTrial_40 : am_d cX8_minutesOfTrial 40 (.ireturn) 1 41 := ⟨by decide +kernel, rfl⟩
theorem eX8_minutesOfTrial_41 : am_d cX8_minutesOfTrial 41 (.iinc 4 1) 3 44 := ⟨by decide +kernel, rfl⟩
theorem eX8_minutesOfTrial_44 : am_b cX8_minutesOfTrial 44 (.goto (-27)) (-27) 47 17 := ⟨by decide +kernel, rfl, by decide⟩
theorem eX8_minutesOfTrial_47 : am_d cX8_minutesOfTrial 47 (.iconst (-1)) 1 48 := ⟨by decide +kernel, rfl⟩
theorem eX8_minutesOfTrial_48 : am_d cX8_minutesOfTrial 48 (.ireturn) 1 49 := ⟨by decide +kernel, rfl⟩
theorem eX8_passTrialMinute_0 : am_d cX8_passTrialMinute 0 (.iconst 1) 1 1 := ⟨by decide +kernel, rfl⟩
theorem eX8_passTrialMinute_1 : am_d cX8_passTrialMinute 1 (.istore_n 3) 1 2 := ⟨by decide +kernel, rfl⟩
theorem eX8_passTrialMinute_2 : am_d cX8_passTrialMinute 2 (.iload_n 3) 1 3 := ⟨by decide +kernel, rfl⟩
theorem eX8_passTrialMinute_3 : am_d cX8_passTrialMinute 3 (.iload_n 2) 1 4 := ⟨by decide +kernel, rfl⟩
theorem eX8_passTrialMinute_4 : am_b cX8_passTrialMinute 4 (.if_icmp .gt 43) (43) 7 47 := ⟨by decide +kernel, rfl, by decide⟩
theorem eX8_passTrialMinute_7 : am_d cX8_passTrialMinute 7 (.aload_n 1) 1 8 := ⟨by decide +kernel, rfl⟩
theorem eX8_passTrialMinute_8 : am_d cX8_passTrialMinute 8 (.iload_n 3) 1 9 := ⟨by decide +kernel, rfl⟩
theorem eX8_passTrialMinute_9 : am_d cX8_passTrialMinute 9 (.iconst 1) 1 10 := ⟨by decide +kernel, rfl⟩
theorem eX8_passTrialMinute_10 : am_d cX8_passTrialMinute 10 (.isub) 1 11 := ⟨by decide +kernel, rfl⟩
theorem eX8_passTrialMinute_11 : am_d cX8_passTrialMinute 11 (.baload) 1 12 := ⟨by decide +kernel, rfl⟩
theorem eX8_passTrialMinute_12 : am_b cX8_passTrialMinute 12 (.ifCond .eq 29) (29) 15 41 := ⟨by decide +kernel, rfl, by decide⟩
theorem eX8_passTrialMinute_15 : am_d cX8_passTrialMinute 15 (.iload_n 3) 1 16 := ⟨by decide +kernel, rfl⟩
theorem eX8_passTrialMinute_16 : am_d cX8_passTrialMinute 16 (.iload_n 2) 1 17 := ⟨by decide +kernel, rfl⟩
theorem eX8_passTrialMinute_17 : am_b cX8_passTrialMinute 17 (.if_icmp .eq 11) (11) 20 28 := ⟨by decide +kernel, rfl, by decide⟩
theorem eX8_passTrialMinute_20 : am_d cX8_passTrialMinute 20 (.aload_n 0) 1 21 := ⟨by decide +kernel, rfl⟩
theorem eX8_passTrialMinute_21 : am_d cX8_passTrialMinute 21 (.iload_n 3) 1 22 := ⟨by decide +kernel, rfl⟩
theorem eX8_passTrialMinute_22 : am_d cX8_passTrialMinute 22 (.iaload) 1 23 := ⟨by decide +kernel, rfl⟩
theorem eX8_passTrialMinute_23 : am_d cX8_passTrialMinute 23 (.bipush 10) 2 25 := ⟨by decide +kernel, rfl⟩
theorem eX8_passTrialMinute_25 : am_b cX8_passTrialMinute 25 (.if_icmp .ge 16) (16) 28 41 := ⟨by decide +kernel, rfl, by decide⟩
theorem eX8_passTrialMinute_28 : am_d cX8_passTrialMinute 28 (.aload_n 1) 1 29 := ⟨by decide +kernel, rfl⟩
theorem eX8_passTrialMinute_29 : am_d cX8_passTrialMinute 29 (.iload_n 3) 1 30 := ⟨by decide +kernel, rfl⟩
theorem eX8_passTrialMinute_30 : am_d cX8_passTrialMinute 30 (.iconst 1) 1 31 := ⟨by decide +kernel, rfl⟩
theorem eX8_passTrialMinute_31 : am_d cX8_passTrialMinute 31 (.isub) 1 32 := ⟨by decide +kernel, rfl⟩
theorem eX8_passTrialMinute_32 : am_d cX8_passTrialMinute 32 (.iconst 0) 1 33 := ⟨by decide +kernel, rfl⟩
theorem eX8_passTrialMinute_33 : am_d cX8_passTrialMinute 33 (.bastore) 1 34 := ⟨by decide +kernel, rfl⟩
theorem eX8_passTrialMinute_34 : am_d cX8_passTrialMinute 34 (.aload_n 0) 1 35 := ⟨by decide +kernel, rfl⟩
theorem eX8_passTrialMinute_35 : am_d cX8_passTrialMinute 35 (.iload_n 3) 1 36 := ⟨by decide +kernel, rfl⟩
theorem eX8_passTrialMinute_36 : am_d cX8_passTrialMinute 36 (.dup2) 1 37 := ⟨by decide +kernel, rfl⟩
theorem eX8_passTrialMinute_37 : am_d cX8_passTrialMinute 37 (.iaload) 1 38 := ⟨by decide +kernel, rfl⟩
theorem eX8_passTrialMinute_38 : am_d cX8_passTrialMinute 38 (.iconst 1) 1 39 := ⟨by decide +kernel, rfl⟩
theorem eX8_passTrialMinute_39 : am_d cX8_passTrialMinute 39 (.iadd) 1 40 := ⟨by decide +kernel, rfl⟩
theorem eX8_passTrialMinute_40 : am_d cX8_passTrialMinute 40 (.iastore) 1 41 := ⟨by decide +kernel, rfl⟩
theorem eX8_passTrialMinute_41 : am_d cX8_passTrialMinute 41 (.iinc 3 1) 3 44 := ⟨by decide +kernel, rfl⟩
theorem eX8_passTrialMinute_44 : am_b cX8_passTrialMinute 44 (.goto (-42)) (-42) 47 2 := ⟨by decide +kernel, rfl, by decide⟩
theorem eX8_passTrialMinute_47 : am_d cX8_passTrialMinute 47 (.iconst 0) 1 48 := ⟨by decide +kernel, rfl⟩
theorem eX8_passTrialMinute_48 : am_d cX8_passTrialMinute 48 (.istore_n 3) 1 49 := ⟨by decide +kernel, rfl⟩
theorem eX8_passTrialMinute_49 : am_d cX8_passTrialMinute 49 (.iload_n 3) 1 50 := ⟨by decide +kernel, rfl⟩
theorem eX8_passTrialMinute_50 : am_d cX8_passTrialMinute 50 (.iload_n 2) 1 51 := ⟨by decide +kernel, rfl⟩
theorem eX8_passTrialMinute_51 : am_b cX8_passTrialMinute 51 (.if_icmp .ge 32) (32) 54 83 := ⟨by decide +kernel, rfl, by decide⟩
theorem eX8_passTrialMinute_54 : am_d cX8_passTrialMinute 54 (.aload_n 1) 1 55 := ⟨by decide +kernel, rfl⟩
theorem eX8_passTrialMinute_55 : am_d cX8_passTrialMinute 55 (.iload_n 3) 1 56 := ⟨by decide +kernel, rfl⟩
theorem eX8_passTrialMinute_56 : am_d cX8_passTrialMinute 56 (.baload) 1 57 := ⟨by decide +kernel, rfl⟩
theorem eX8_passTrialMinute_57 : am_b cX8_passTrialMinute 57 (.ifCond .ne 20) (20) 60 77 := ⟨by decide +kernel, rfl, by decide⟩
theorem eX8_passTrialMinute_60 : am_d cX8_passTrialMinute 60 (.aload_n 0) 1 61 := ⟨by decide +kernel, rfl⟩
theorem eX8_passTrialMinute_61 : am_d cX8_passTrialMinute 61 (.iload_n 3) 1 62 := ⟨by decide +kernel, rfl⟩
theorem eX8_passTrialMinute_62 : am_d cX8_passTrialMinute 62 (.iaload) 1 63 := ⟨by decide +kernel, rfl⟩
theorem eX8_passTrialMinute_63 : am_b cX8_passTrialMinute 63 (.ifCond .le 14) (14) 66 77 := ⟨by decide +kernel, rfl, by decide⟩
theorem eX8_passTrialMinute_66 : am_d cX8_passTrialMinute 66 (.aload_n 0) 1 67 := ⟨by decide +kernel, rfl⟩
theorem eX8_passTrialMinute_67 : am_d cX8_passTrialMinute 67 (.iload_n 3) 1 68 := ⟨by decide +kernel, rfl⟩
theorem eX8_passTrialMinute_68 : am_d cX8_passTrialMinute 68 (.dup2) 1 69 := ⟨by decide +kernel, rfl⟩
theorem eX8_passTrialMinute_69 : am_d cX8_passTrialMinute 69 (.iaload) 1 70 := ⟨by decide +kernel, rfl⟩
theorem eX8_passTrialMinute_70 : am_d cX8_passTrialMinute 70 (.iconst 1) 1 71 := ⟨by decide +kernel, rfl⟩
theorem eX8_passTrialMinute_71 : am_d cX8_passTrialMinute 71 (.isub) 1 72 := ⟨by decide +kernel, rfl⟩
theorem eX8_passTrialMinute_72 : am_d cX8_passTrialMinute 72 (.iastore) 1 73 := ⟨by decide +kernel, rfl⟩
theorem eX8_passTrialMinute_73 : am_d cX8_passTrialMinute 73 (.aload_n 1) 1 74 := ⟨by decide +kernel, rfl⟩
theorem eX8_passTrialMinute_74 : am_d cX8_passTrialMinute 74 (.iload_n 3) 1 75 := ⟨by decide +kernel, rfl⟩
theorem eX8_passTrialMinute_75 : am_d cX8_passTrialMinute 75 (.iconst 1) 1 76 := ⟨by decide +kernel, rfl⟩
theorem eX8_passTrialMinute_76 : am_d cX8_passTrialMinute 76 (.bastore) 1 77 := ⟨by decide +kernel, rfl⟩
theorem eX8_passTrialMinute_77 : am_d cX8_passTrialMinute 77 (.iinc 3 1) 3 80 := ⟨by decide +kernel, rfl⟩
theorem eX8_passTrialMinute_80 : am_b cX8_passTrialMinute 80 (.goto (-31)) (-31) 83 49 := ⟨by decide +kernel, rfl, by decide⟩
theorem eX8_passTrialMinute_83 : am_d cX8_passTrialMinute 83 (.return_) 1 84 := ⟨by decide +kernel, rfl⟩
theorem eX9_init_0 : am_d cX9_init 0 (.aload_n 0) 1 1 := ⟨by decide +kernel, rfl⟩
theorem eX9_init_1 : am_d cX9_init 1 (.invokespecial 1) 3 4 := ⟨by decide +kernel, rfl⟩
theorem eX9_init_4 : am_d cX9_init 4 (.aload_n 0) 1 5 := ⟨by decide +kernel, rfl⟩
theorem eX9_init_5 : am_d cX9_init 5 (.sipush 360) 3 8 := ⟨by decide +kernel, rfl⟩
theorem eX9_init_8 : am_d cX9_init 8 (.putfield 7) 3 11 := ⟨by decide +kernel, rfl⟩
theorem eX9_init_11 : am_d cX9_init 11 (.aload_n 0) 1 12 := ⟨by decide +kernel, rfl⟩
theorem eX9_init_12 : am_d cX9_init 12 (.bipush 12) 2 14 := ⟨by decide +kernel, rfl⟩
theorem eX9_init_14 : am_d cX9_init 14 (.newarray .int) 2 16 := ⟨by decide +kernel, rfl⟩
theorem eX9_init_16 : am_d cX9_init 16 (.putfield 13) 3 19 := ⟨by decide +kernel, rfl⟩
theorem eX9_init_19 : am_d cX9_init 19 (.aload_n 0) 1 20 := ⟨by decide +kernel, rfl⟩
theorem eX9_init_20 : am_d cX9_init 20 (.bipush 12) 2 22 := ⟨by decide +kernel, rfl⟩
theorem eX9_init_22 : am_d cX9_init 22 (.newarray .int) 2 24 := ⟨by decide +kernel, rfl⟩
theorem eX9_init_24 : am_d cX9_init 24 (.putfield 17) 3 27 := ⟨by decide +kernel, rfl⟩
theorem eX9_init_27 : am_d cX9_init 27 (.aload_n 0) 1 28 := ⟨by decide +kernel, rfl⟩
theorem eX9_init_28 : am_d cX9_init 28 (.bipush 12) 2 30 := ⟨by decide +kernel, rfl⟩
theorem eX9_init_30 : am_d cX9_init 30 (.newarray .int) 2 32 := ⟨by decide +kernel, rfl⟩
theorem eX9_init_32 : am_d cX9_init 32 (.putfield 20) 3 35 := ⟨by decide +kernel, rfl⟩
theorem eX9_init_35 : am_d cX9_init 35 (.aload_n 0) 1 36 := ⟨by decide +kernel, rfl⟩
theorem eX9_init_36 : am_d cX9_init 36 (.bipush 12) 2 38 := ⟨by decide +kernel, rfl⟩
theorem eX9_init_38 : am_d cX9_init 38 (.newarray .int) 2 40 := ⟨by decide +kernel, rfl⟩
theorem eX9_init_40 : am_d cX9_init 40 (.putfield 23) 3 43 := ⟨by decide +kernel, rfl⟩
theorem eX9_init_43 : am_d cX9_init 43 (.aload_n 0) 1 44 := ⟨by decide +kernel, rfl⟩
theorem eX9_init_44 : am_d cX9_init 44 (.bipush 12) 2 46 := ⟨by decide +kernel, rfl⟩
theorem eX9_init_46 : am_d cX9_init 46 (.newarray .int) 2 48 := ⟨by decide +kernel, rfl⟩
theorem eX9_init_48 : am_d cX9_init 48 (.putfield 26) 3 51 := ⟨by decide +kernel, rfl⟩
theorem eX9_init_51 : am_d cX9_init 51 (.aload_n 0) 1 52 := ⟨by decide +kernel, rfl⟩
theorem eX9_init_52 : am_d cX9_init 52 (.bipush 36) 2 54 := ⟨by decide +kernel, rfl⟩
theorem eX9_init_54 : am_d cX9_init 54 (.newarray .int) 2 56 := ⟨by decide +kernel, rfl⟩
theorem eX9_init_56 : am_d cX9_init 56 (.putfield 29) 3 59 := ⟨by decide +kernel, rfl⟩
theorem eX9_init_59 : am_d cX9_init 59 (.aload_n 0) 1 60 := ⟨by decide +kernel, rfl⟩
theorem eX9_init_60 : am_d cX9_init 60 (.bipush 36) 2 62 := ⟨by decide +kernel, rfl⟩
theorem eX9_init_62 : am_d cX9_init 62 (.newarray .int) 2 64 := ⟨by decide +kernel, rfl⟩
theorem eX9_init_64 : am_d cX9_init 64 (.putfield 32) 3 67 := ⟨by decide +kernel, rfl⟩
theorem eX9_init_67 : am_d cX9_init 67 (.aload_n 0) 1 68 := ⟨by decide +kernel, rfl⟩
theorem eX9_init_68 : am_d cX9_init 68 (.bipush 24) 2 70 := ⟨by decide +kernel, rfl⟩
theorem eX9_init_70 : am_d cX9_init 70 (.newarray .int) 2 72 := ⟨by decide +kernel, rfl⟩
theorem eX9_init_72 : am_d cX9_init 72 (.putfield 35) 3 75 := ⟨by decide +kernel, rfl⟩
theorem eX9_init_75 : am_d cX9_init 75 (.aload_n 0) 1 76 := ⟨by decide +kernel, rfl⟩
theorem eX9_init_76 : am_d cX9_init 76 (.bipush 24) 2 78 := ⟨by decide +kernel, rfl⟩
theorem eX9_init_78 : am_d cX9_init 78 (.newarray .int) 2 80 := ⟨by decide +kernel, rfl⟩
theorem eX9_init_80 : am_d cX9_init 80 (.putfield 38) 3 83 := ⟨by decide +kernel, rfl⟩
theorem eX9_init_83 : am_d cX9_init 83 (.aload_n 0) 1 84 := ⟨by decide +kernel, rfl⟩
theorem eX9_init_84 : am_d cX9_init 84 (.sipush 5280) 3 87 := ⟨by decide +kernel, rfl⟩
theorem eX9_init_87 : am_d cX9_init 87 (.newarray .int) 2 89 := ⟨by decide +kernel, rfl⟩
theorem eX9_init_89 : am_d cX9_init 89 (.putfield 41) 3 92 := ⟨by decide +kernel, rfl⟩
theorem eX9_init_92 : am_d cX9_init 92 (.aload_n 0) 1 93 := ⟨by decide +kernel, rfl⟩
theorem eX9_init_93 : am_d cX9_init 93 (.bipush 24) 2 95 := ⟨by decide +kernel, rfl⟩
theorem eX9_init_95 : am_d cX9_init 95 (.newarray .int) 2 97 := ⟨by decide +kernel, rfl⟩
theorem eX9_init_97 : am_d cX9_init 97 (.putfield 44) 3 100 := ⟨by decide +kernel, rfl⟩
theorem eX9_init_100 : am_d cX9_init 100 (.aload_n 0) 1 101 := ⟨by decide +kernel, rfl⟩
theorem eX9_init_101 : am_d cX9_init 101 (.bipush 24) 2 103 := ⟨by decide +kernel, rfl⟩
theorem eX9_init_103 : am_d cX9_init 103 (.newarray .boolean) 2 105 := ⟨by decide +kernel, rfl⟩
theorem eX9_init_105 : am_d cX9_init 105 (.putfield 47) 3 108 := ⟨by decide +kernel, rfl⟩
theorem eX9_init_108 : am_d cX9_init 108 (.aload_n 0) 1 109 := ⟨by decide +kernel, rfl⟩
theorem eX9_init_109 : am_d cX9_init 109 (.bipush 24) 2 111 := ⟨by decide +kernel, rfl⟩
theorem eX9_init_111 : am_d cX9_init 111 (.newarray .int) 2 113 := ⟨by decide +kernel, rfl⟩
theorem eX9_init_113 : am_d cX9_init 113 (.putfield 51) 3 116 := ⟨by decide +kernel, rfl⟩
theorem eX9_init_116 : am_d cX9_init 116 (.aload_n 0) 1 117 := ⟨by decide +kernel, rfl⟩
theorem eX9_init_117 : am_d cX9_init 117 (.sipush 7200) 3 120 := ⟨by decide +kernel, rfl⟩
theorem eX9_init_120 : am_d cX9_init 120 (.newarray .int) 2 122 := ⟨by decide +kernel, rfl⟩
theorem eX9_init_122 : am_d cX9_init 122 (.putfield 54) 3 125 := ⟨by decide +kernel, rfl⟩
theorem eX9_init_125 : am_d cX9_init 125 (.aload_n 0) 1 126 := ⟨by decide +kernel, rfl⟩
theorem eX9_init_126 : am_d cX9_init 126 (.sipush 7200) 3 129 := ⟨by decide +kernel, rfl⟩
theorem eX9_init_129 : am_d cX9_init 129 (.newarray .int) 2 131 := ⟨by decide +kernel, rfl⟩
theorem eX9_init_131 : am_d cX9_init 131 (.putfield 57) 3 134 := ⟨by decide +kernel, rfl⟩
theorem eX9_init_134 : am_d cX9_init 134 (.aload_n 0) 1 135 := ⟨by decide +kernel, rfl⟩
theorem eX9_init_135 : am_d cX9_init 135 (.sipush 7200) 3 138 := ⟨by decide +kernel, rfl⟩
theorem eX9_init_138 : am_d cX9_init 138 (.newarray .boolean) 2 140 := ⟨by decide +kernel, rfl⟩
theorem eX9_init_140 : am_d cX9_init 140 (.putfield 60) 3 143 := ⟨by decide +kernel, rfl⟩
theorem eX9_init_143 : am_d cX9_init 143 (.aload_n 0) 1 144 := ⟨by decide +kernel, rfl⟩
theorem eX9_init_144 : am_d cX9_init 144 (.iconst 3) 1 145 := ⟨by decide +kernel, rfl⟩
theorem eX9_init_145 : am_d cX9_init 145 (.newarray .int) 2 147 := ⟨by decide +kernel, rfl⟩
theorem eX9_init_147 : am_d cX9_init 147 (.putfield 63) 3 150 := ⟨by decide +kernel, rfl⟩
theorem eX9_init_150 : am_d cX9_init 150 (.aload_n 0) 1 151 := ⟨by decide +kernel, rfl⟩
theorem eX9_init_151 : am_d cX9_init 151 (.sipush 600) 3 154 := ⟨by decide +kernel, rfl⟩
theorem eX9_init_154 : am_d cX9_init 154 (.newarray .int) 2 156 := ⟨by decide +kernel, rfl⟩
theorem eX9_init_156 : am_d cX9_init 156 (.putfield 66) 3 159 := ⟨by decide +kernel, rfl⟩
theorem eX9_init_159 : am_d cX9_init 159 (.aload_n 0) 1 160 := ⟨by decide +kernel, rfl⟩
theorem eX9_init_160 : am_d cX9_init 160 (.sipush 600) 3 163 := ⟨by decide +kernel, rfl⟩
theorem eX9_init_163 : am_d cX9_init 163 (.newarray .int) 2 165 := ⟨by decide +kernel, rfl⟩
theorem eX9_init_165 : am_d cX9_init 165 (.putfield 69) 3 168 := ⟨by decide +kernel, rfl⟩
theorem eX9_init_168 : am_d cX9_init 168 (.aload_n 0) 1 169 := ⟨by decide +kernel, rfl⟩
theorem eX9_init_169 : am_d cX9_init 169 (.bipush 12) 2 171 := ⟨by decide +kernel, rfl⟩
theorem eX9_init_171 : am_d cX9_init 171 (.newarray .int) 2 173 := ⟨by decide +kernel, rfl⟩
theorem eX9_init_173 : am_d cX9_init 173 (.putfield 72) 3 176 := ⟨by decide +kernel, rfl⟩
theorem eX9_init_176 : am_d cX9_init 176 (.aload_n 0) 1 177 := ⟨by decide +kernel, rfl⟩
theorem eX9_init_177 : am_d cX9_init 177 (.bipush 40) 2 179 := ⟨by decide +kernel, rfl⟩
theorem eX9_init_179 : am_d cX9_init 179 (.newarray .int) 2 181 := ⟨by decide +kernel, rfl⟩
theorem eX9_init_181 : am_d cX9_init 181 (.putfield 75) 3 184 := ⟨by decide +kernel, rfl⟩
theorem eX9_init_184 : am_d cX9_init 184 (.aload_n 0) 1 185 := ⟨by decide +kernel, rfl⟩
theorem eX9_init_185 : am_d cX9_init 185 (.iconst 2) 1 186 := ⟨by decide +kernel, rfl⟩
theorem eX9_init_186 : am_d cX9_init 186 (.newarray .boolean) 2 188 := ⟨by decide +kernel, rfl⟩
theorem eX9_init_188 : am_d cX9_init 188 (.putfield 78) 3 191 := ⟨by decide +kernel, rfl⟩
theorem eX9_init_191 : am_d cX9_init 191 (.aload_n 0) 1 192 := ⟨by decide +kernel, rfl⟩
theorem eX9_init_192 : am_d cX9_init 192 (.iconst 2) 1 193 := ⟨by decide +kernel, rfl⟩
theorem eX9_init_193 : am_d cX9_init 193 (.newarray .int) 2 195 := ⟨by decide +kernel, rfl⟩
theorem eX9_init_195 : am_d cX9_init 195 (.putfield 81) 3 198 := ⟨by decide +kernel, rfl⟩
theorem eX9_init_198 : am_d cX9_init 198 (.aload_n 0) 1 199 := ⟨by decide +kernel, rfl⟩
theorem eX9_init_199 : am_d cX9_init 199 (.bipush 80) 2 201 := ⟨by decide +kernel, rfl⟩
theorem eX9_init_201 : am_d cX9_init 201 (.newarray .int) 2 203 := ⟨by decide +kernel, rfl⟩
theorem eX9_init_203 : am_d cX9_init 203 (.putfield 84) 3 206 := ⟨by decide +kernel, rfl⟩
theorem eX9_init_206 : am_d cX9_init 206 (.aload_n 0) 1 207 := ⟨by decide +kernel, rfl⟩
theorem eX9_init_207 : am_d cX9_init 207 (.bipush 80) 2 209 := ⟨by decide +kernel, rfl⟩
theorem eX9_init_209 : am_d cX9_init 209 (.newarray .boolean) 2 211 := ⟨by decide +kernel, rfl⟩
theorem eX9_init_211 : am_d cX9_init 211 (.putfield 87) 3 214 := ⟨by decide +kernel, rfl⟩
theorem eX9_init_214 : am_d cX9_init 214 (.aload_n 0) 1 215 := ⟨by decide +kernel, rfl⟩
theorem eX9_init_215 : am_d cX9_init 215 (.bipush 80) 2 217 := ⟨by decide +kernel, rfl⟩
theorem eX9_init_217 : am_d cX9_init 217 (.newarray .int) 2 219 := ⟨by decide +kernel, rfl⟩
theorem eX9_init_219 : am_d cX9_init 219 (.putfield 90) 3 222 := ⟨by decide +kernel, rfl⟩
theorem eX9_init_222 : am_d cX9_init 222 (.aload_n 0) 1 223 := ⟨by decide +kernel, rfl⟩
theorem eX9_init_223 : am_d cX9_init 223 (.sipush 4800) 3 226 := ⟨by decide +kernel, rfl⟩
theorem eX9_init_226 : am_d cX9_init 226 (.newarray .int) 2 228 := ⟨by decide +kernel, rfl⟩
theorem eX9_init_228 : am_d cX9_init 228 (.putfield 93) 3 231 := ⟨by decide +kernel, rfl⟩
theorem eX9_init_231 : am_d cX9_init 231 (.aload_n 0) 1 232 := ⟨by decide +kernel, rfl⟩
theorem eX9_init_232 : am_d cX9_init 232 (.iconst 2) 1 233 := ⟨by decide +kernel, rfl⟩
theorem eX9_init_233 : am_d cX9_init 233 (.newarray .int) 2 235 := ⟨by decide +kernel, rfl⟩
theorem eX9_init_235 : am_d cX9_init 235 (.putfield 96) 3 238 := ⟨by decide +kernel, rfl⟩
theorem eX9_init_238 : am_d cX9_init 238 (.aload_n 0) 1 239 := ⟨by decide +kernel, rfl⟩
theorem eX9_init_239 : am_d cX9_init 239 (.bipush 80) 2 241 := ⟨by decide +kernel, rfl⟩
theorem eX9_init_241 : am_d cX9_init 241 (.newarray .int) 2 243 := ⟨by decide +kernel, rfl⟩
theorem eX9_init_243 : am_d cX9_init 243 (.putfield 99) 3 246 := ⟨by decide +kernel, rfl⟩
theorem eX9_init_246 : am_d cX9_init 246 (.aload_n 0) 1 247 := ⟨by decide +kernel, rfl⟩
theorem eX9_init_247 : am_d cX9_init 247 (.bipush 80) 2 249 := ⟨by decide +kernel, rfl⟩
theorem eX9_init_249 : am_d cX9_init 249 (.newarray .int) 2 251 := ⟨by decide +kernel, rfl⟩
theorem eX9_init_251 : am_d cX9_init 251 (.putfield 102) 3 254 := ⟨by decide +kernel, rfl⟩
theorem eX9_init_254 : am_d cX9_init 254 (.aload_n 0) 1 255 := ⟨by decide +kernel, rfl⟩
theorem eX9_init_255 : am_d cX9_init 255 (.bipush 80) 2 257 := ⟨by decide +kernel, rfl⟩
theorem eX9_init_257 : am_d cX9_init 257 (.newarray .boolean) 2 259 := ⟨by decide +kernel, rfl⟩
theorem eX9_init_259 : am_d cX9_init 259 (.putfield 105) 3 262 := ⟨by decide +kernel, rfl⟩
theorem eX9_init_262 : am_d cX9_init 262 (.aload_n 0) 1 263 := ⟨by decide +kernel, rfl⟩
theorem eX9_init_263 : am_d cX9_init 263 (.bipush 80) 2 265 := ⟨by decide +kernel, rfl⟩
theorem eX9_init_265 : am_d cX9_init 265 (.newarray .int) 2 267 := ⟨by decide +kernel, rfl⟩
theorem eX9_init_267 : am_d cX9_init 267 (.putfield 108) 3 270 := ⟨by decide +kernel, rfl⟩
theorem eX9_init_270 : am_d cX9_init 270 (.aload_n 0) 1 271 := ⟨by decide +kernel, rfl⟩
theorem eX9_init_271 : am_d cX9_init 271 (.sipush 4800) 3 274 := ⟨by decide +kernel, rfl⟩
theorem eX9_init_274 : am_d cX9_init 274 (.newarray .int) 2 276 := ⟨by decide +kernel, rfl⟩
theorem eX9_init_276 : am_d cX9_init 276 (.putfield 111) 3 279 := ⟨by decide +kernel, rfl⟩
theorem eX9_init_279 : am_d cX9_init 279 (.aload_n 0) 1 280 := ⟨by decide +kernel, rfl⟩
theorem eX9_init_280 : am_d cX9_init 280 (.bipush 6) 2 282 := ⟨by decide +kernel, rfl⟩
theorem eX9_init_282 : am_d cX9_init 282 (.newarray .int) 2 284 := ⟨by decide +kernel, rfl⟩
theorem eX9_init_284 : am_d cX9_init 284 (.putfield 114) 3 287 := ⟨by decide +kernel, rfl⟩
theorem eX9_init_287 : am_d cX9_init 287 (.aload_n 0) 1 288 := ⟨by decide +kernel, rfl⟩
theorem eX9_init_288 : am_d cX9_init 288 (.bipush 6) 2 290 := ⟨by decide +kernel, rfl⟩
theorem eX9_init_290 : am_d cX9_init 290 (.newarray .int) 2 292 := ⟨by decide +kernel, rfl⟩
theorem eX9_init_292 : am_d cX9_init 292 (.putfield 117) 3 295 := ⟨by decide +kernel, rfl⟩
theorem eX9_init_295 : am_d cX9_init 295 (.aload_n 0) 1 296 := ⟨by decide +kernel, rfl⟩
theorem eX9_init_296 : am_d cX9_init 296 (.sipush 1200) 3 299 := ⟨by decide +kernel, rfl⟩
theorem eX9_init_299 : am_d cX9_init 299 (.newarray .int) 2 301 := ⟨by decide +kernel, rfl⟩
theorem eX9_init_301 : am_d cX9_init 301 (.putfield 120) 3 304 := ⟨by decide +kernel, rfl⟩
theorem eX9_init_304 : am_d cX9_init 304 (.iconst 0) 1 305 := ⟨by decide +kernel, rfl⟩
theorem eX9_init_305 : am_d cX9_init 305 (.istore_n 1) 1 306 := ⟨by decide +kernel, rfl⟩
theorem eX9_init_306 : am_d cX9_init 306 (.iload_n 1) 1 307 := ⟨by decide +kernel, rfl⟩
theorem eX9_init_307 : am_d cX9_init 307 (.bipush 24) 2 309 := ⟨by decide +kernel, rfl⟩
theorem eX9_init_309 : am_b cX9_init 309 (.if_icmp .ge 16) (16) 312 325 := ⟨by decide +kernel, rfl, by decide⟩
theorem eX9_init_312 : am_d cX9_init 312 (.aload_n 0) 1 313 := ⟨by decide +kernel, rfl⟩
theorem eX9_init_313 : am_d cX9_init 313 (.getfield 44) 3 316 := ⟨by decide +kernel, rfl⟩
theorem eX9_init_316 : am_d cX9_init 316 (.iload_n 1) 1 317 := ⟨by decide +kernel, rfl⟩
theorem eX9_init_317 : am_d cX9_init 317 (.iconst (-1)) 1 318 := ⟨by decide +kernel, rfl⟩
theorem eX9_init_318 : am_d cX9_init 318 (.iastore) 1 319 := ⟨by decide +kernel, rfl⟩
theorem eX9_init_319 : am_d cX9_init 319 (.iinc 1 1) 3 322 := ⟨by decide +kernel, rfl⟩
theorem eX9_init_322 : am_b cX9_init 322 (.goto (-16)) (-16) 325 306 := ⟨by decide +kernel, rfl, by decide⟩
theorem eX9_init_325 : am_d cX9_init 325 (.return_) 1 326 := ⟨by decide +kernel, rfl⟩
theorem eX9_thrown_0 : am_d cX9_thrown 0 (.aload_n 0) 1 1 := ⟨by decide +kernel, rfl⟩
theorem eX9_thrown_1 : am_d cX9_thrown 1 (.getfield 123) 3 4 := ⟨by decide +kernel, rfl⟩
theorem eX9_thrown_4 : am_d cX9_thrown 4 (.ireturn) 1 5 := ⟨by decide +kernel, rfl⟩
theorem eX9_in_0 : am_d cX9_in 0 (.iload_n 0) 1 1 := ⟨by decide +kernel, rfl⟩
theorem eX9_in_1 : am_d cX9_in 1 (.iload_n 1) 1 2 := ⟨by decide +kernel, rfl⟩
theorem eX9_in_2 : am_b cX9_in 2 (.if_icmp .lt 12) (12) 5 14 := ⟨by decide +kernel, rfl, by decide⟩
theorem eX9_in_5 : am_d cX9_in 5 (.iload_n 0) 1 6 := ⟨by decide +kernel, rfl⟩
theorem eX9_in_6 : am_d cX9_in 6 (.iload_n 2) 1 7 := ⟨by decide +kernel, rfl⟩
theorem eX9_in_7 : am_b cX9_in 7 (.if_icmp .gt 7) (7) 10 14 := ⟨by decide +kernel, rfl, by decide⟩
theorem eX9_in_10 : am_d cX9_in 10 (.iconst 1) 1 11 := ⟨by decide +kernel, rfl⟩
theorem eX9_in_11 : am_b cX9_in 11 (.goto 4) (4) 14 15 := ⟨by decide +kernel, rfl, by decide⟩
theorem eX9_in_14 : am_d cX9_in 14 (.iconst 0) 1 15 := ⟨by decide +kernel, rfl⟩
theorem eX9_in_15 : am_d cX9_in 15 (.ireturn) 1 16 := ⟨by decide +kernel, rfl⟩
theorem eX9_isTower_0 : am_d cX9_isTower 0 (.iload_n 1) 1 1 := ⟨by decide +kernel, rfl⟩
theorem eX9_isTower_1 : am_d cX9_isTower 1 (.iconst 0) 1 2 := ⟨by decide +kernel, rfl⟩
theorem eX9_isTower_2 : am_d cX9_isTower 2 (.aload_n 0) 1 3 := ⟨by decide +kernel, rfl⟩
theorem eX9_isTower_3 : am_d cX9_isTower 3 (.getfield 126) 3 6 := ⟨by decide +kernel, rfl⟩
theorem eX9_isTower_6 : am_d cX9_isTower 6 (.iconst 1) 1 7 := ⟨by decide +kernel, rfl⟩
theorem eX9_isTower_7 : am_d cX9_isTower 7 (.isub) 1 8 := ⟨by decide +kernel, rfl⟩
theorem eX9_isTower_8 : am_d cX9_isTower 8 (.invokestatic 129) 3 11 := ⟨by decide +kernel, rfl⟩
theorem eX9_isTower_11 : am_d cX9_isTower 11 (.ireturn) 1 12 := ⟨by decide +kernel, rfl⟩
theorem eX9_isStretch_0 : am_d cX9_isStretch 0 (.iload_n 1) 1 1 := ⟨by decide +kernel, rfl⟩
theorem eX9_isStretch_1 : am_d cX9_isStretch 1 (.iconst 0) 1 2 := ⟨by decide +kernel, rfl⟩
theorem eX9_isStretch_2 : am_d cX9_isStretch 2 (.aload_n 0) 1 3 := ⟨by decide +kernel, rfl⟩
theorem eX9_isStretch_3 : am_d cX9_isStretch 3 (.getfield 126) 3 6 := ⟨by decide +kernel, rfl⟩
theorem eX9_isStretch_6 : am_d cX9_isStretch 6 (.iconst 2) 1 7 := ⟨by decide +kernel, rfl⟩
theorem eX9_isStretch_7 : am_d cX9_isStretch 7 (.isub) 1 8 := ⟨by decide +kernel, rfl⟩
theorem eX9_isStretch_8 : am_d cX9_isStretch 8 (.invokestatic 129) 3 11 := ⟨by decide +kernel, rfl⟩
theorem eX9_isStretch_11 : am_d cX9_isStretch 11 (.ireturn) 1 12 := ⟨by decide +kernel, rfl⟩
theorem eX9_isBook_0 : am_d cX9_isBook 0 (.iload_n 0) 1 1 := ⟨by decide +kernel, rfl⟩
theorem eX9_isBook_1 : am_d cX9_isBook 1 (.iconst 0) 1 2 := ⟨by decide +kernel, rfl⟩
theorem eX9_isBook_2 : am_d cX9_isBook 2 (.iconst 2) 1 3 := ⟨by decide +kernel, rfl⟩
theorem eX9_isBook_3 : am_d cX9_isBook 3 (.invokestatic 129) 3 6 := ⟨by decide +kernel, rfl⟩
theorem eX9_isBook_6 : am_d cX9_isBook 6 (.ireturn) 1 7 := ⟨by decide +kernel, rfl⟩
theorem eX9_at_0 : am_d cX9_at 0 (.iconst 2) 1 1 := ⟨by decide +kernel, rfl⟩
theorem eX9_at_1 : am_d cX9_at 1 (.iload_n 0) 1 2 := ⟨by decide +kernel, rfl⟩
theorem eX9_at_2 : am_d cX9_at 2 (.imul) 1 3 := ⟨by decide +kernel, rfl⟩
theorem eX9_at_3 : am_d cX9_at 3 (.iload_n 1) 1 4 := ⟨by decide +kernel, rfl⟩
theorem eX9_at_4 : am_b cX9_at 4 (.ifCond .eq 7) (7) 7 11 := ⟨by decide +kernel, rfl, by decide⟩
theorem eX9_at_7 : am_d cX9_at 7 (.iconst 1) 1 8 := ⟨by decide +kernel, rfl⟩
theorem eX9_at_8 : am_b cX9_at 8 (.goto 4) (4) 11 12 := ⟨by decide +kernel, rfl, by decide⟩
theorem eX9_at_11 : am_d cX9_at 11 (.iconst 0) 1 12 := ⟨by decide +kernel, rfl⟩
theorem eX9_at_12 : am_d cX9_at 12 (.iadd) 1 13 := ⟨by decide +kernel, rfl⟩
theorem eX9_at_13 : am_d cX9_at 13 (.ireturn) 1 14 := ⟨by decide +kernel, rfl⟩
theorem eX9_isEnd_0 : am_d cX9_isEnd 0 (.iload_n 1) 1 1 := ⟨by decide +kernel, rfl⟩
theorem eX9_isEnd_1 : am_d cX9_isEnd 1 (.iload_n 2) 1 2 := ⟨by decide +kernel, rfl⟩
theorem eX9_isEnd_2 : am_b cX9_isEnd 2 (.ifCond .eq 12) (12) 5 14 := ⟨by decide +kernel, rfl, by decide⟩
theorem eX9_isEnd_5 : am_d cX9_isEnd 5 (.aload_n 0) 1 6 := ⟨by decide +kernel, rfl⟩
theorem eX9_isEnd_6 : am_d cX9_isEnd 6 (.getfield 126) 3 9 := ⟨by decide +kernel, rfl⟩
theorem eX9_isEnd_9 : am_d cX9_isEnd 9 (.iconst 1) 1 10 := ⟨by decide +kernel, rfl⟩
theorem eX9_isEnd_10 : am_d cX9_isEnd 10 (.isub) 1 11 := ⟨by decide +kernel, rfl⟩
theorem eX9_isEnd_11 : am_b cX9_isEnd 11 (.goto 4) (4) 14 15 := ⟨by decide +kernel, rfl, by decide⟩
theorem eX9_isEnd_14 : am_d cX9_isEnd 14 (.iconst 0) 1 15 := ⟨by decide +kernel, rfl⟩
theorem eX9_isEnd_15 : am_b cX9_isEnd 15 (.if_icmp .ne 7) (7) 18 22 := ⟨by decide +kernel, rfl, by decide⟩
theorem eX9_isEnd_18 : am_d cX9_isEnd 18 (.iconst 1) 1 19 := ⟨by decide +kernel, rfl⟩
theorem eX9_isEnd_19 : am_b cX9_isEnd 19 (.goto 4) (4) 22 23 := ⟨by decide +kernel, rfl, by decide⟩
theorem eX9_isEnd_22 : am_d cX9_isEnd 22 (.iconst 0) 1 23 := ⟨by decide +kernel, rfl⟩
theorem eX9_isEnd_23 : am_d cX9_isEnd 23 (.ireturn) 1 24 := ⟨by decide +kernel, rfl⟩
theorem eX9_tower_0 : am_d cX9_tower 0 (.aload_n 0) 1 1 := ⟨by decide +kernel, rfl⟩
theorem eX9_tower_1 : am_d cX9_tower 1 (.iload_n 1) 1 2 := ⟨by decide +kernel, rfl⟩
theorem eX9_tower_2 : am_d cX9_tower 2 (.iconst 0) 1 3 := ⟨by decide +kernel, rfl⟩
theorem eX9_tower_3 : am_d cX9_tower 3 (.bipush 99) 2 5 := ⟨by decide +kernel, rfl⟩
theorem eX9_tower_5 : am_d cX9_tower 5 (.invokestatic 129) 3 8 := ⟨by decide +kernel, rfl⟩
theorem eX9_tower_8 : am_b cX9_tower 8 (.ifCond .eq 13) (13) 11 21 := ⟨by decide +kernel, rfl, by decide⟩
theorem eX9_tower_11 : am_d cX9_tower 11 (.iload_n 2) 1 12 := ⟨by decide +kernel, rfl⟩
theorem eX9_tower_12 : am_d cX9_tower 12 (.iconst 1) 1 13 := ⟨by decide +kernel, rfl⟩
theorem eX9_tower_13 : am_d cX9_tower 13 (.bipush 20) 2 15 := ⟨by decide +kernel, rfl⟩
theorem eX9_tower_15 : am_d cX9_tower 15 (.invokestatic 129) 3 18 := ⟨by decide +kernel, rfl⟩
theorem eX9_tower_18 : am_b cX9_tower 18 (.ifCond .ne 7) (7) 21 25 := ⟨by decide +kernel, rfl, by decide⟩
theorem eX9_tower_21 : am_d cX9_tower 21 (.iconst 1) 1 22 := ⟨by decide +kernel, rfl⟩
theorem eX9_tower_22 : am_b cX9_tower 22 (.goto 24) (24) 25 46 := ⟨by decide +kernel, rfl, by decide⟩
theorem eX9_tower_25 : am_d cX9_tower 25 (.aload_n 0) 1 26 := ⟨by decide +kernel, rfl⟩
theorem eX9_tower_26 : am_d cX9_tower 26 (.getfield 126) 3 29 := ⟨by decide +kernel, rfl⟩
theorem eX9_tower_29 : am_d cX9_tower 29 (.bipush 12) 2 31 := ⟨by decide +kernel, rfl⟩
theorem eX9_tower_31 : am_b cX9_tower 31 (.if_icmp .eq 10) (10) 34 41 := ⟨by decide +kernel, rfl, by decide⟩
theorem eX9_tower_34 : am_d cX9_tower 34 (.aload_n 0) 1 35 := ⟨by decide +kernel, rfl⟩
theorem eX9_tower_35 : am_d cX9_tower 35 (.getfield 133) 3 38 := ⟨by decide +kernel, rfl⟩
theorem eX9_tower_38 : am_b cX9_tower 38 (.ifCond .eq 7) (7) 41 45 := ⟨by decide +kernel, rfl, by decide⟩
theorem eX9_tower_41 : am_d cX9_tower 41 (.iconst 2) 1 42 := ⟨by decide +kernel, rfl⟩
theorem eX9_tower_42 : am_b cX9_tower 42 (.goto 4) (4) 45 46 := ⟨by decide +kernel, rfl, by decide⟩
theorem eX9_tower_45 : am_d cX9_tower 45 (.iconst 0) 1 46 := ⟨by decide +kernel, rfl⟩
theorem eX9_tower_46 : am_d cX9_tower 46 (.putfield 123) 3 49 := ⟨by decide +kernel, rfl⟩
theorem eX9_tower_49 : am_d cX9_tower 49 (.aload_n 0) 1 50 := ⟨by decide +kernel, rfl⟩
theorem eX9_tower_50 : am_d cX9_tower 50 (.getfield 123) 3 53 := ⟨by decide +kernel, rfl⟩
theorem eX9_tower_53 : am_b cX9_tower 53 (.ifCond .le 5) (5) 56 58 := ⟨by decide +kernel, rfl, by decide⟩
theorem eX9_tower_56 : am_d cX9_tower 56 (.iconst 0) 1 57 := ⟨by decide +kernel, rfl⟩
theorem eX9_tower_57 : am_d cX9_tower 57 (.ireturn) 1 58 := ⟨by decide +kernel, rfl⟩
theorem eX9_tower_58 : am_d cX9_tower 58 (.aload_n 0) 1 59 := ⟨by decide +kernel, rfl⟩
theorem eX9_tower_59 : am_d cX9_tower 59 (.getfield 13) 3 62 := ⟨by decide +kernel, rfl⟩
theorem eX9_tower_62 : am_d cX9_tower 62 (.aload_n 0) 1 63 := ⟨by decide +kernel, rfl⟩
theorem eX9_tower_63 : am_d cX9_tower 63 (.getfield 126) 3 66 := ⟨by decide +kernel, rfl⟩
theorem eX9_tower_66 : am_d cX9_tower 66 (.iload_n 1) 1 67 := ⟨by decide +kernel, rfl⟩
theorem eX9_tower_67 : am_d cX9_tower 67 (.iastore) 1 68 := ⟨by decide +kernel, rfl⟩
theorem eX9_tower_68 : am_d cX9_tower 68 (.aload_n 0) 1 69 := ⟨by decide +kernel, rfl⟩
theorem eX9_tower_69 : am_d cX9_tower 69 (.getfield 17) 3 72 := ⟨by decide +kernel, rfl⟩
theorem eX9_tower_72 : am_d cX9_tower 72 (.aload_n 0) 1 73 := ⟨by decide +kernel, rfl⟩
theorem eX9_tower_73 : am_d cX9_tower 73 (.getfield 126) 3 76 := ⟨by decide +kernel, rfl⟩
theorem eX9_tower_76 : am_d cX9_tower 76 (.iload_n 2) 1 77 := ⟨by decide +kernel, rfl⟩
theorem eX9_tower_77 : am_d cX9_tower 77 (.iastore) 1 78 := ⟨by decide +kernel, rfl⟩
theorem eX9_tower_78 : am_d cX9_tower 78 (.aload_n 0) 1 79 := ⟨by decide +kernel, rfl⟩
theorem eX9_tower_79 : am_d cX9_tower 79 (.dup) 1 80 := ⟨by decide +kernel, rfl⟩
theorem eX9_tower_80 : am_d cX9_tower 80 (.getfield 126) 3 83 := ⟨by decide +kernel, rfl⟩
theorem eX9_tower_83 : am_d cX9_tower 83 (.iconst 1) 1 84 := ⟨by decide +kernel, rfl⟩
theorem eX9_tower_84 : am_d cX9_tower 84 (.iadd) 1 85 := ⟨by decide +kernel, rfl⟩
theorem eX9_tower_85 : am_d cX9_tower 85 (.putfield 126) 3 88 := ⟨by decide +kernel, rfl⟩
theorem eX9_tower_88 : am_d cX9_tower 88 (.aload_n 0) 1 89 := ⟨by decide +kernel, rfl⟩
theorem eX9_tower_89 : am_d cX9_tower 89 (.getfield 126) 3 92 := ⟨by decide +kernel, rfl⟩
theorem eX9_tower_92 : am_d cX9_tower 92 (.iconst 1) 1 93 := ⟨by decide +kernel, rfl⟩
theorem eX9_tower_93 : am_d cX9_tower 93 (.isub) 1 94 := ⟨by decide +kernel, rfl⟩
theorem eX9_tower_94 : am_d cX9_tower 94 (.ireturn) 1 95 := ⟨by decide +kernel, rfl⟩
theorem eX9_hill_0 : am_d cX9_hill 0 (.aload_n 0) 1 1 := ⟨by decide +kernel, rfl⟩
theorem eX9_hill_1 : am_d cX9_hill 1 (.aload_n 0) 1 2 := ⟨by decide +kernel, rfl⟩
theorem eX9_hill_2 : am_d cX9_hill 2 (.iload_n 1) 1 3 := ⟨by decide +kernel, rfl⟩
theorem eX9_hill_3 : am_d cX9_hill 3 (.invokevirtual 137) 3 6 := ⟨by decide +kernel, rfl⟩
theorem eX9_hill_6 : am_b cX9_hill 6 (.ifCond .ne 7) (7) 9 13 := ⟨by decide +kernel, rfl, by decide⟩
theorem eX9_hill_9 : am_d cX9_hill 9 (.iconst 1) 1 10 := ⟨by decide +kernel, rfl⟩
theorem eX9_hill_10 : am_b cX9_hill 10 (.goto 4) (4) 13 14 := ⟨by decide +kernel, rfl, by decide⟩
theorem eX9_hill_13 : am_d cX9_hill 13 (.iconst 0) 1 14 := ⟨by decide +kernel, rfl⟩
theorem eX9_hill_14 : am_d cX9_hill 14 (.putfield 123) 3 17 := ⟨by decide +kernel, rfl⟩
theorem eX9_hill_17 : am_d cX9_hill 17 (.aload_n 0) 1 18 := ⟨by decide +kernel, rfl⟩
theorem eX9_hill_18 : am_d cX9_hill 18 (.getfield 123) 3 21 := ⟨by decide +kernel, rfl⟩
theorem eX9_hill_21 : am_b cX9_hill 21 (.ifCond .le 5) (5) 24 26 := ⟨by decide +kernel, rfl, by decide⟩
theorem eX9_hill_24 : am_d cX9_hill 24 (.iconst 0) 1 25 := ⟨by decide +kernel, rfl⟩
theorem eX9_hill_25 : am_d cX9_hill 25 (.ireturn) 1 26 := ⟨by decide +kernel, rfl⟩
theorem eX9_hill_26 : am_d cX9_hill 26 (.aload_n 0) 1 27 := ⟨by decide +kernel, rfl⟩
theorem eX9_hill_27 : am_d cX9_hill 27 (.iload_n 2) 1 28 := ⟨by decide +kernel, rfl⟩
theorem eX9_hill_28 : am_d cX9_hill 28 (.iconst 0) 1 29 := ⟨by decide +kernel, rfl⟩
theorem eX9_hill_29 : am_d cX9_hill 29 (.bipush 99) 2 31 := ⟨by decide +kernel, rfl⟩
theorem eX9_hill_31 : am_d cX9_hill 31 (.invokestatic 129) 3 34 := ⟨by decide +kernel, rfl⟩
theorem eX9_hill_34 : am_b cX9_hill 34 (.ifCond .eq 21) (21) 37 55 := ⟨by decide +kernel, rfl, by decide⟩
theorem eX9_hill_37 : am_d cX9_hill 37 (.iload_n 3) 1 38 := ⟨by decide +kernel, rfl⟩
theorem eX9_hill_38 : am_d cX9_hill 38 (.iconst 1) 1 39 := ⟨by decide +kernel, rfl⟩
theorem eX9_hill_39 : am_d cX9_hill 39 (.aload_n 0) 1 40 := ⟨by decide +kernel, rfl⟩
theorem eX9_hill_40 : am_d cX9_hill 40 (.getfield 17) 3 43 := ⟨by decide +kernel, rfl⟩
theorem eX9_hill_43 : am_d cX9_hill 43 (.iload_n 1) 1 44 := ⟨by decide +kernel, rfl⟩
theorem eX9_hill_44 : am_d cX9_hill 44 (.iconst 1) 1 45 := ⟨by decide +kernel, rfl⟩
theorem eX9_hill_45 : am_d cX9_hill 45 (.iadd) 1 46 := ⟨by decide +kernel, rfl⟩
theorem eX9_hill_46 : am_d cX9_hill 46 (.iaload) 1 47 := ⟨by decide +kernel, rfl⟩
theorem eX9_hill_47 : am_d cX9_hill 47 (.iconst 1) 1 48 := ⟨by decide +kernel, rfl⟩
theorem eX9_hill_48 : am_d cX9_hill 48 (.isub) 1 49 := ⟨by decide +kernel, rfl⟩
theorem eX9_hill_49 : am_d cX9_hill 49 (.invokestatic 129) 3 52 := ⟨by decide +kernel, rfl⟩
theorem eX9_hill_52 : am_b cX9_hill 52 (.ifCond .ne 7) (7) 55 59 := ⟨by decide +kernel, rfl, by decide⟩
theorem eX9_hill_55 : am_d cX9_hill 55 (.iconst 2) 1 56 := ⟨by decide +kernel, rfl⟩
theorem eX9_hill_56 : am_b cX9_hill 56 (.goto 18) (18) 59 74 := ⟨by decide +kernel, rfl, by decide⟩
theorem eX9_hill_59 : am_d cX9_hill 59 (.aload_n 0) 1 60 := ⟨by decide +kernel, rfl⟩
theorem eX9_hill_60 : am_d cX9_hill 60 (.getfield 26) 3 63 := ⟨by decide +kernel, rfl⟩
theorem eX9_hill_63 : am_d cX9_hill 63 (.iload_n 1) 1 64 := ⟨by decide +kernel, rfl⟩
theorem eX9_hill_64 : am_d cX9_hill 64 (.iaload) 1 65 := ⟨by decide +kernel, rfl⟩
theorem eX9_hill_65 : am_d cX9_hill 65 (.iconst 3) 1 66 := ⟨by decide +kernel, rfl⟩
theorem eX9_hill_66 : am_b cX9_hill 66 (.if_icmp .ne 7) (7) 69 73 := ⟨by decide +kernel, rfl, by decide⟩
theorem eX9_hill_69 : am_d cX9_hill 69 (.iconst 3) 1 70 := ⟨by decide +kernel, rfl⟩
theorem eX9_hill_70 : am_b cX9_hill 70 (.goto 4) (4) 73 74 := ⟨by decide +kernel, rfl, by decide⟩
theorem eX9_hill_73 : am_d cX9_hill 73 (.iconst 0) 1 74 := ⟨by decide +kernel, rfl⟩
theorem eX9_hill_74 : am_d cX9_hill 74 (.putfield 123) 3 77 := ⟨by decide +kernel, rfl⟩
theorem eX9_hill_77 : am_d cX9_hill 77 (.aload_n 0) 1 78 := ⟨by decide +kernel, rfl⟩
theorem eX9_hill_78 : am_d cX9_hill 78 (.getfield 123) 3 81 := ⟨by decide +kernel, rfl⟩
theorem eX9_hill_81 : am_b cX9_hill 81 (.ifCond .le 5) (5) 84 86 := ⟨by decide +kernel, rfl, by decide⟩
theorem eX9_hill_84 : am_d cX9_hill 84 (.iconst 0) 1 85 := ⟨by decide +kernel, rfl⟩
theorem eX9_hill_85 : am_d cX9_hill 85 (.ireturn) 1 86 := ⟨by decide +kernel, rfl⟩
theorem eX9_hill_86 : am_d cX9_hill 86 (.aload_n 0) 1 87 := ⟨by decide +kernel, rfl⟩
theorem eX9_hill_87 : am_d cX9_hill 87 (.getfield 29) 3 90 := ⟨by decide +kernel, rfl⟩
theorem eX9_hill_90 : am_d cX9_hill 90 (.iconst 3) 1 91 := ⟨by decide +kernel, rfl⟩
theorem eX9_hill_91 : am_d cX9_hill 91 (.iload_n 1) 1 92 := ⟨by decide +kernel, rfl⟩
theorem eX9_hill_92 : am_d cX9_hill 92 (.imul) 1 93 := ⟨by decide +kernel, rfl⟩
theorem eX9_hill_93 : am_d cX9_hill 93 (.aload_n 0) 1 94 := ⟨by decide +kernel, rfl⟩
theorem eX9_hill_94 : am_d cX9_hill 94 (.getfield 26) 3 97 := ⟨by decide +kernel, rfl⟩
theorem eX9_hill_97 : am_d cX9_hill 97 (.iload_n 1) 1 98 := ⟨by decide +kernel, rfl⟩
theorem eX9_hill_98 : am_d cX9_hill 98 (.iaload) 1 99 := ⟨by decide +kernel, rfl⟩
theorem eX9_hill_99 : am_d cX9_hill 99 (.iadd) 1 100 := ⟨by decide +kernel, rfl⟩
theorem eX9_hill_100 : am_d cX9_hill 100 (.iload_n 2) 1 101 := ⟨by decide +kernel, rfl⟩
theorem eX9_hill_101 : am_d cX9_hill 101 (.iastore) 1 102 := ⟨by decide +kernel, rfl⟩
theorem eX9_hill_102 : am_d cX9_hill 102 (.aload_n 0) 1 103 := ⟨by decide +kernel, rfl⟩
theorem eX9_hill_103 : am_d cX9_hill 103 (.getfield 32) 3 106 := ⟨by decide +kernel, rfl⟩
theorem eX9_hill_106 : am_d cX9_hill 106 (.iconst 3) 1 107 := ⟨by decide +kernel, rfl⟩
theorem eX9_hill_107 : am_d cX9_hill 107 (.iload_n 1) 1 108 := ⟨by decide +kernel, rfl⟩
theorem eX9_hill_108 : am_d cX9_hill 108 (.imul) 1 109 := ⟨by decide +kernel, rfl⟩
theorem eX9_hill_109 : am_d cX9_hill 109 (.aload_n 0) 1 110 := ⟨by decide +kernel, rfl⟩
theorem eX9_hill_110 : am_d cX9_hill 110 (.getfield 26) 3 113 := ⟨by decide +kernel, rfl⟩
theorem eX9_hill_113 : am_d cX9_hill 113 (.iload_n 1) 1 114 := ⟨by decide +kernel, rfl⟩
theorem eX9_hill_114 : am_d cX9_hill 114 (.iaload) 1 115 := ⟨by decide +kernel, rfl⟩
theorem eX9_hill_115 : am_d cX9_hill 115 (.iadd) 1 116 := ⟨by decide +kernel, rfl⟩
theorem eX9_hill_116 : am_d cX9_hill 116 (.iload_n 3) 1 117 := ⟨by decide +kernel, rfl⟩
theorem eX9_hill_117 : am_d cX9_hill 117 (.iastore) 1 118 := ⟨by decide +kernel, rfl⟩
theorem eX9_hill_118 : am_d cX9_hill 118 (.aload_n 0) 1 119 := ⟨by decide +kernel, rfl⟩
theorem eX9_hill_119 : am_d cX9_hill 119 (.getfield 26) 3 122 := ⟨by decide +kernel, rfl⟩
theorem eX9_hill_122 : am_d cX9_hill 122 (.iload_n 1) 1 123 := ⟨by decide +kernel, rfl⟩
theorem eX9_hill_123 : am_d cX9_hill 123 (.dup2) 1 124 := ⟨by decide +kernel, rfl⟩
theorem eX9_hill_124 : am_d cX9_hill 124 (.iaload) 1 125 := ⟨by decide +kernel, rfl⟩
theorem eX9_hill_125 : am_d cX9_hill 125 (.iconst 1) 1 126 := ⟨by decide +kernel, rfl⟩
theorem eX9_hill_126 : am_d cX9_hill 126 (.iadd) 1 127 := ⟨by decide +kernel, rfl⟩
theorem eX9_hill_127 : am_d cX9_hill 127 (.iastore) 1 128 := ⟨by decide +kernel, rfl⟩
theorem eX9_hill_128 : am_d cX9_hill 128 (.aload_n 0) 1 129 := ⟨by decide +kernel, rfl⟩
theorem eX9_hill_129 : am_d cX9_hill 129 (.getfield 26) 3 132 := ⟨by decide +kernel, rfl⟩
theorem eX9_hill_132 : am_d cX9_hill 132 (.iload_n 1) 1 133 := ⟨by decide +kernel, rfl⟩
theorem eX9_hill_133 : am_d cX9_hill 133 (.iaload) 1 134 := ⟨by decide +kernel, rfl⟩
theorem eX9_hill_134 : am_d cX9_hill 134 (.ireturn) 1 135 := ⟨by decide +kernel, rfl⟩
theorem eX9_air_0 : am_d cX9_air 0 (.aload_n 0) 1 1 := ⟨by decide +kernel, rfl⟩
theorem eX9_air_1 : am_d cX9_air 1 (.aload_n 0) 1 2 := ⟨by decide +kernel, rfl⟩
theorem eX9_air_2 : am_d cX9_air 2 (.iload_n 1) 1 3 := ⟨by decide +kernel, rfl⟩
theorem eX9_air_3 : am_d cX9_air 3 (.invokevirtual 137) 3 6 := ⟨by decide +kernel, rfl⟩
theorem eX9_air_6 : am_b cX9_air 6 (.ifCond .ne 7) (7) 9 13 := ⟨by decide +kernel, rfl, by decide⟩
theorem eX9_air_9 : am_d cX9_air 9 (.iconst 1) 1 10 := ⟨by decide +kernel, rfl⟩
theorem eX9_air_10 : am_b cX9_air 10 (.goto 17) (17) 13 27 := ⟨by decide +kernel, rfl, by decide⟩
theorem eX9_air_13 : am_d cX9_air 13 (.iload_n 2) 1 14 := ⟨by decide +kernel, rfl⟩
theorem eX9_air_14 : am_d cX9_air 14 (.iconst 0) 1 15 := ⟨by decide +kernel, rfl⟩
theorem eX9_air_15 : am_d cX9_air 15 (.iconst 2) 1 16 := ⟨by decide +kernel, rfl⟩
theorem eX9_air_16 : am_d cX9_air 16 (.invokestatic 129) 3 19 := ⟨by decide +kernel, rfl⟩
theorem eX9_air_19 : am_b cX9_air 19 (.ifCond .eq 7) (7) 22 26 := ⟨by decide +kernel, rfl, by decide⟩
theorem eX9_air_22 : am_d cX9_air 22 (.iconst 0) 1 23 := ⟨by decide +kernel, rfl⟩
theorem eX9_air_23 : am_b cX9_air 23 (.goto 4) (4) 26 27 := ⟨by decide +kernel, rfl, by decide⟩
theorem eX9_air_26 : am_d cX9_air 26 (.iconst 2) 1 27 := ⟨by decide +kernel, rfl⟩
theorem eX9_air_27 : am_d cX9_air 27 (.putfield 123) 3 30 := ⟨by decide +kernel, rfl⟩
theorem eX9_air_30 : am_d cX9_air 30 (.aload_n 0) 1 31 := ⟨by decide +kernel, rfl⟩
theorem eX9_air_31 : am_d cX9_air 31 (.getfield 123) 3 34 := ⟨by decide +kernel, rfl⟩
theorem eX9_air_34 : am_b cX9_air 34 (.ifCond .le 5) (5) 37 39 := ⟨by decide +kernel, rfl, by decide⟩
theorem eX9_air_37 : am_d cX9_air 37 (.iconst 0) 1 38 := ⟨by decide +kernel, rfl⟩
theorem eX9_air_38 : am_d cX9_air 38 (.ireturn) 1 39 := ⟨by decide +kernel, rfl⟩
theorem eX9_air_39 : am_d cX9_air 39 (.aload_n 0) 1 40 := ⟨by decide +kernel, rfl⟩
theorem eX9_air_40 : am_d cX9_air 40 (.getfield 23) 3 43 := ⟨by decide +kernel, rfl⟩
theorem eX9_air_43 : am_d cX9_air 43 (.iload_n 1) 1 44 := ⟨by decide +kernel, rfl⟩
theorem eX9_air_44 : am_d cX9_air 44 (.iaload) 1 45 := ⟨by decide +kernel, rfl⟩
theorem eX9_air_45 : am_d cX9_air 45 (.istore_n 3) 1 46 := ⟨by decide +kernel, rfl⟩
theorem eX9_air_46 : am_d cX9_air 46 (.aload_n 0) 1 47 := ⟨by decide +kernel, rfl⟩
theorem eX9_air_47 : am_d cX9_air 47 (.getfield 23) 3 50 := ⟨by decide +kernel, rfl⟩
theorem eX9_air_50 : am_d cX9_air 50 (.iload_n 1) 1 51 := ⟨by decide +kernel, rfl⟩
theorem eX9_air_51 : am_d cX9_air 51 (.iload_n 2) 1 52 := ⟨by decide +kernel, rfl⟩
theorem eX9_air_52 : am_d cX9_air 52 (.iastore) 1 53 := ⟨by decide +kernel, rfl⟩
theorem eX9_air_53 : am_d cX9_air 53 (.iload_n 3) 1 54 := ⟨by decide +kernel, rfl⟩
theorem eX9_air_54 : am_d cX9_air 54 (.ireturn) 1 55 := ⟨by decide +kernel, rfl⟩
theorem eX9_tire_0 : am_d cX9_tire 0 (.aload_n 0) 1 1 := ⟨by decide +kernel, rfl⟩
theorem eX9_tire_1 : am_d cX9_tire 1 (.aload_n 0) 1 2 := ⟨by decide +kernel, rfl⟩
theorem eX9_tire_2 : am_d cX9_tire 2 (.iload_n 1) 1 3 := ⟨by decide +kernel, rfl⟩
theorem eX9_tire_3 : am_d cX9_tire 3 (.invokevirtual 141) 3 6 := ⟨by decide +kernel, rfl⟩
theorem eX9_tire_6 : am_b cX9_tire 6 (.ifCond .ne 7) (7) 9 13 := ⟨by decide +kernel, rfl, by decide⟩
theorem eX9_tire_9 : am_d cX9_tire 9 (.iconst 1) 1 10 := ⟨by decide +kernel, rfl⟩
theorem eX9_tire_10 : am_b cX9_tire 10 (.goto 19) (19) 13 29 := ⟨by decide +kernel, rfl, by decide⟩
theorem eX9_tire_13 : am_d cX9_tire 13 (.iload_n 2) 1 14 := ⟨by decide +kernel, rfl⟩
theorem eX9_tire_14 : am_d cX9_tire 14 (.iconst 0) 1 15 := ⟨by decide +kernel, rfl⟩
theorem eX9_tire_15 : am_d cX9_tire 15 (.sipush 1009) 3 18 := ⟨by decide +kernel, rfl⟩
theorem eX9_tire_18 : am_d cX9_tire 18 (.invokestatic 129) 3 21 := ⟨by decide +kernel, rfl⟩
theorem eX9_tire_21 : am_b cX9_tire 21 (.ifCond .eq 7) (7) 24 28 := ⟨by decide +kernel, rfl, by decide⟩
theorem eX9_tire_24 : am_d cX9_tire 24 (.iconst 0) 1 25 := ⟨by decide +kernel, rfl⟩
theorem eX9_tire_25 : am_b cX9_tire 25 (.goto 4) (4) 28 29 := ⟨by decide +kernel, rfl, by decide⟩
theorem eX9_tire_28 : am_d cX9_tire 28 (.iconst 2) 1 29 := ⟨by decide +kernel, rfl⟩
theorem eX9_tire_29 : am_d cX9_tire 29 (.putfield 123) 3 32 := ⟨by decide +kernel, rfl⟩
theorem eX9_tire_32 : am_d cX9_tire 32 (.aload_n 0) 1 33 := ⟨by decide +kernel, rfl⟩
theorem eX9_tire_33 : am_d cX9_tire 33 (.getfield 123) 3 36 := ⟨by decide +kernel, rfl⟩
theorem eX9_tire_36 : am_b cX9_tire 36 (.ifCond .le 5) (5) 39 41 := ⟨by decide +kernel, rfl, by decide⟩
theorem eX9_tire_39 : am_d cX9_tire 39 (.iconst 0) 1 40 := ⟨by decide +kernel, rfl⟩
theorem eX9_tire_40 : am_d cX9_tire 40 (.ireturn) 1 41 := ⟨by decide +kernel, rfl⟩
theorem eX9_tire_41 : am_d cX9_tire 41 (.aload_n 0) 1 42 := ⟨by decide +kernel, rfl⟩
theorem eX9_tire_42 : am_d cX9_tire 42 (.getfield 20) 3 45 := ⟨by decide +kernel, rfl⟩
theorem eX9_tire_45 : am_d cX9_tire 45 (.iload_n 1) 1 46 := ⟨by decide +kernel, rfl⟩
theorem eX9_tire_46 : am_d cX9_tire 46 (.iaload) 1 47 := ⟨by decide +kernel, rfl⟩
theorem eX9_tire_47 : am_d cX9_tire 47 (.istore_n 3) 1 48 := ⟨by decide +kernel, rfl⟩
theorem eX9_tire_48 : am_d cX9_tire 48 (.aload_n 0) 1 49 := ⟨by decide +kernel, rfl⟩
theorem eX9_tire_49 : am_d cX9_tire 49 (.getfield 20) 3 52 := ⟨by decide +kernel, rfl⟩
theorem eX9_tire_52 : am_d cX9_tire 52 (.iload_n 1) 1 53 := ⟨by decide +kernel, rfl⟩
theorem eX9_tire_53 : am_d cX9_tire 53 (.iload_n 2) 1 54 := ⟨by decide +kernel, rfl⟩
theorem eX9_tire_54 : am_d cX9_tire 54 (.iastore) 1 55 := ⟨by decide +kernel, rfl⟩
theorem eX9_tire_55 : am_d cX9_tire 55 (.iload_n 3) 1 56 := ⟨by decide +kernel, rfl⟩
theorem eX9_tire_56 : am_d cX9_tire 56 (.ireturn) 1 57 := ⟨by decide +kernel, rfl⟩
theorem eX9_seed_0 : am_d cX9_seed 0 (.aload_n 0) 1 1 := ⟨by decide +kernel, rfl⟩
theorem eX9_seed_1 : am_d cX9_seed 1 (.iload_n 1) 1 2 := ⟨by decide +kernel, rfl⟩
theorem eX9_seed_2 : am_d cX9_seed 2 (.iconst 0) 1 3 := ⟨by decide +kernel, rfl⟩
theorem eX9_seed_3 : am_d cX9_seed 3 (.sipush 9999) 3 6 := ⟨by decide +kernel, rfl⟩
theorem eX9_seed_6 : am_d cX9_seed 6 (.invokestatic 129) 3 9 := ⟨by decide +kernel, rfl⟩
theorem eX9_seed_9 : am_b cX9_seed 9 (.ifCond .eq 7) (7) 12 16 := ⟨by decide +kernel, rfl, by decide⟩
theorem eX9_seed_12 : am_d cX9_seed 12 (.iconst 0) 1 13 := ⟨by decide +kernel, rfl⟩
theorem eX9_seed_13 : am_b cX9_seed 13 (.goto 4) (4) 16 17 := ⟨by decide +kernel, rfl, by decide⟩
theorem eX9_seed_16 : am_d cX9_seed 16 (.iconst 1) 1 17 := ⟨by decide +kernel, rfl⟩
theorem eX9_seed_17 : am_d cX9_seed 17 (.putfield 123) 3 20 := ⟨by decide +kernel, rfl⟩
theorem eX9_seed_20 : am_d cX9_seed 20 (.aload_n 0) 1 21 := ⟨by decide +kernel, rfl⟩
theorem eX9_seed_21 : am_d cX9_seed 21 (.getfield 123) 3 24 := ⟨by decide +kernel, rfl⟩
theorem eX9_seed_24 : am_b cX9_seed 24 (.ifCond .le 5) (5) 27 29 := ⟨by decide +kernel, rfl, by decide⟩
theorem eX9_seed_27 : am_d cX9_seed 27 (.iconst 0) 1 28 := ⟨by decide +kernel, rfl⟩
theorem eX9_seed_28 : am_d cX9_seed 28 (.ireturn) 1 29 := ⟨by decide +kernel, rfl⟩
theorem eX9_seed_29 : am_d cX9_seed 29 (.aload_n 0) 1 30 := ⟨by decide +kernel, rfl⟩
theorem eX9_seed_30 : am_d cX9_seed 30 (.getfield 144) 3 33 := ⟨by decide +kernel, rfl⟩
theorem eX9_seed_33 : am_d cX9_seed 33 (.istore_n 2) 1 34 := ⟨by decide +kernel, rfl⟩
theorem eX9_seed_34 : am_d cX9_seed 34 (.aload_n 0) 1 35 := ⟨by decide +kernel, rfl⟩
theorem eX9_seed_35 : am_d cX9_seed 35 (.iload_n 1) 1 36 := ⟨by decide +kernel, rfl⟩
theorem eX9_seed_36 : am_d cX9_seed 36 (.putfield 144) 3 39 := ⟨by decide +kernel, rfl⟩
theorem eX9_seed_39 : am_d cX9_seed 39 (.iload_n 2) 1 40 := ⟨by decide +kernel, rfl⟩
theorem eX9_seed_40 : am_d cX9_seed 40 (.ireturn) 1 41 := ⟨by decide +kernel, rfl⟩
theorem eX9_isDay_0 : am_d cX9_isDay 0 (.aload_n 0) 1 1 := ⟨by decide +kernel, rfl⟩
theorem eX9_isDay_1 : am_d cX9_isDay 1 (.getfield 7) 3 4 := ⟨by decide +kernel, rfl⟩
theorem eX9_isDay_4 : am_d cX9_isDay 4 (.sipush 1440) 3 7 := ⟨by decide +kernel, rfl⟩
theorem eX9_isDay_7 : am_d cX9_isDay 7 (.irem) 1 8 := ⟨by decide +kernel, rfl⟩
theorem eX9_isDay_8 : am_d cX9_isDay 8 (.sipush 360) 3 11 := ⟨by decide +kernel, rfl⟩
theorem eX9_isDay_11 : am_d cX9_isDay 11 (.sipush 1079) 3 14 := ⟨by decide +kernel, rfl⟩
theorem eX9_isDay_14 : am_d cX9_isDay 14 (.invokestatic 129) 3 17 := ⟨by decide +kernel, rfl⟩
theorem eX9_isDay_17 : am_d cX9_isDay 17 (.ireturn) 1 18 := ⟨by decide +kernel, rfl⟩
theorem eX9_down_0 : am_d cX9_down 0 (.iload_n 0) 1 1 := ⟨by decide +kernel, rfl⟩
theorem eX9_down_1 : am_b cX9_down 1 (.ifCond .lt 9) (9) 4 10 := ⟨by decide +kernel, rfl, by decide⟩
theorem eX9_down_4 : am_d cX9_down 4 (.iload_n 0) 1 5 := ⟨by decide +kernel, rfl⟩
theorem eX9_down_5 : am_d cX9_down 5 (.iload_n 1) 1 6 := ⟨by decide +kernel, rfl⟩
theorem eX9_down_6 : am_d cX9_down 6 (.idiv) 1 7 := ⟨by decide +kernel, rfl⟩
theorem eX9_down_7 : am_b cX9_down 7 (.goto 12) (12) 10 19 := ⟨by decide +kernel, rfl, by decide⟩
theorem eX9_down_10 : am_d cX9_down 10 (.iload_n 0) 1 11 := ⟨by decide +kernel, rfl⟩
theorem eX9_down_11 : am_d cX9_down 11 (.ineg) 1 12 := ⟨by decide +kernel, rfl⟩
theorem eX9_down_12 : am_d cX9_down 12 (.iload_n 1) 1 13 := ⟨by decide +kernel, rfl⟩
theorem eX9_down_13 : am_d cX9_down 13 (.iadd) 1 14 := ⟨by decide +kernel, rfl⟩
theorem eX9_down_14 : am_d cX9_down 14 (.iconst 1) 1 15 := ⟨by decide +kernel, rfl⟩
theorem eX9_down_15 : am_d cX9_down 15 (.isub) 1 16 := ⟨by decide +kernel, rfl⟩
theorem eX9_down_16 : am_d cX9_down 16 (.iload_n 1) 1 17 := ⟨by decide +kernel, rfl⟩
theorem eX9_down_17 : am_d cX9_down 17 (.idiv) 1 18 := ⟨by decide +kernel, rfl⟩
theorem eX9_down_18 : am_d cX9_down 18 (.ineg) 1 19 := ⟨by decide +kernel, rfl⟩
theorem eX9_down_19 : am_d cX9_down 19 (.ireturn) 1 20 := ⟨by decide +kernel, rfl⟩
theorem eX9_seesAlong_0 : am_d cX9_seesAlong 0 (.aload_n 0) 1 1 := ⟨by decide +kernel, rfl⟩
theorem eX9_seesAlong_1 : am_d cX9_seesAlong 1 (.getfield 17) 3 4 := ⟨by decide +kernel, rfl⟩
theorem eX9_seesAlong_4 : am_d cX9_seesAlong 4 (.iload_n 1) 1 5 := ⟨by decide +kernel, rfl⟩
theorem eX9_seesAlong_5 : am_d cX9_seesAlong 5 (.iconst 1) 1 6 := ⟨by decide +kernel, rfl⟩
theorem eX9_seesAlong_6 : am_d cX9_seesAlong 6 (.iadd) 1 7 := ⟨by decide +kernel, rfl⟩
theorem eX9_seesAlong_7 : am_d cX9_seesAlong 7 (.iaload) 1 8 := ⟨by decide +kernel, rfl⟩
theorem eX9_seesAlong_8 : am_d cX9_seesAlong 8 (.istore_n 2) 1 9 := ⟨by decide +kernel, rfl⟩
theorem eX9_seesAlong_9 : am_d cX9_seesAlong 9 (.aload_n 0) 1 10 := ⟨by decide +kernel, rfl⟩
theorem eX9_seesAlong_10 : am_d cX9_seesAlong 10 (.invokevirtual 147) 3 13 := ⟨by decide +kernel, rfl⟩
theorem eX9_seesAlong_13 : am_b cX9_seesAlong 13 (.ifCond .eq 32) (32) 16 45 := ⟨by decide +kernel, rfl, by decide⟩
theorem eX9_seesAlong_16 : am_d cX9_seesAlong 16 (.aload_n 0) 1 17 := ⟨by decide +kernel, rfl⟩
theorem eX9_seesAlong_17 : am_d cX9_seesAlong 17 (.getfield 23) 3 20 := ⟨by decide +kernel, rfl⟩
theorem eX9_seesAlong_20 : am_d cX9_seesAlong 20 (.iload_n 1) 1 21 := ⟨by decide +kernel, rfl⟩
theorem eX9_seesAlong_21 : am_d cX9_seesAlong 21 (.iaload) 1 22 := ⟨by decide +kernel, rfl⟩
theorem eX9_seesAlong_22 : am_b cX9_seesAlong 22 (.ifCond .eq 19) (19) 25 41 := ⟨by decide +kernel, rfl, by decide⟩
theorem eX9_seesAlong_25 : am_d cX9_seesAlong 25 (.aload_n 0) 1 26 := ⟨by decide +kernel, rfl⟩
theorem eX9_seesAlong_26 : am_d cX9_seesAlong 26 (.getfield 23) 3 29 := ⟨by decide +kernel, rfl⟩
theorem eX9_seesAlong_29 : am_d cX9_seesAlong 29 (.iload_n 1) 1 30 := ⟨by decide +kernel, rfl⟩
theorem eX9_seesAlong_30 : am_d cX9_seesAlong 30 (.iaload) 1 31 := ⟨by decide +kernel, rfl⟩
theorem eX9_seesAlong_31 : am_d cX9_seesAlong 31 (.iconst 1) 1 32 := ⟨by decide +kernel, rfl⟩
theorem eX9_seesAlong_32 : am_b cX9_seesAlong 32 (.if_icmp .ne 13) (13) 35 45 := ⟨by decide +kernel, rfl, by decide⟩
theorem eX9_seesAlong_35 : am_d cX9_seesAlong 35 (.iload_n 2) 1 36 := ⟨by decide +kernel, rfl⟩
theorem eX9_seesAlong_36 : am_d cX9_seesAlong 36 (.bipush 10) 2 38 := ⟨by decide +kernel, rfl⟩
theorem eX9_seesAlong_38 : am_b cX9_seesAlong 38 (.if_icmp .gt 7) (7) 41 45 := ⟨by decide +kernel, rfl, by decide⟩
theorem eX9_seesAlong_41 : am_d cX9_seesAlong 41 (.iconst 1) 1 42 := ⟨by decide +kernel, rfl⟩
theorem eX9_seesAlong_42 : am_b cX9_seesAlong 42 (.goto 4) (4) 45 46 := ⟨by decide +kernel, rfl, by decide⟩
theorem eX9_seesAlong_45 : am_d cX9_seesAlong 45 (.iconst 0) 1 46 := ⟨by decide +kernel, rfl⟩
theorem eX9_seesAlong_46 : am_d cX9_seesAlong 46 (.istore_n 3) 1 47 := ⟨by decide +kernel, rfl⟩
theorem eX9_seesAlong_47 : am_d cX9_seesAlong 47 (.iconst 3) 1 48 := ⟨by decide +kernel, rfl⟩
theorem eX9_seesAlong_48 : am_d cX9_seesAlong 48 (.iload_n 1) 1 49 := ⟨by decide +kernel, rfl⟩
theorem eX9_seesAlong_49 : am_d cX9_seesAlong 49 (.imul) 1 50 := ⟨by decide +kernel, rfl⟩
theorem eX9_seesAlong_50 : am_d cX9_seesAlong 50 (.istore 4) 2 52 := ⟨by decide +kernel, rfl⟩
theorem eX9_seesAlong_52 : am_d cX9_seesAlong 52 (.iload 4) 2 54 := ⟨by decide +kernel, rfl⟩
theorem eX9_seesAlong_54 : am_d cX9_seesAlong 54 (.iconst 3) 1 55 := ⟨by decide +kernel, rfl⟩
theorem eX9_seesAlong_55 : am_d cX9_seesAlong 55 (.iload_n 1) 1 56 := ⟨by decide +kernel, rfl⟩
theorem eX9_seesAlong_56 : am_d cX9_seesAlong 56 (.imul) 1 57 := ⟨by decide +kernel, rfl⟩
theorem eX9_seesAlong_57 : am_d cX9_seesAlong 57 (.aload_n 0) 1 58 := ⟨by decide +kernel, rfl⟩
theorem eX9_seesAlong_58 : am_d cX9_seesAlong 58 (.getfield 26) 3 61 := ⟨by decide +kernel, rfl⟩
theorem eX9_seesAlong_61 : am_d cX9_seesAlong 61 (.iload_n 1) 1 62 := ⟨by decide +kernel, rfl⟩
theorem eX9_seesAlong_62 : am_d cX9_seesAlong 62 (.iaload) 1 63 := ⟨by decide +kernel, rfl⟩
theorem eX9_seesAlong_63 : am_d cX9_seesAlong 63 (.iadd) 1 64 := ⟨by decide +kernel, rfl⟩
theorem eX9_seesAlong_64 : am_b cX9_seesAlong 64 (.if_icmp .ge 67) (67) 67 131 := ⟨by decide +kernel, rfl, by decide⟩
theorem eX9_seesAlong_67 : am_d cX9_seesAlong 67 (.aload_n 0) 1 68 := ⟨by decide +kernel, rfl⟩
theorem eX9_seesAlong_68 : am_d cX9_seesAlong 68 (.getfield 13) 3 71 := ⟨by decide +kernel, rfl⟩
theorem eX9_seesAlong_71 : am_d cX9_seesAlong 71 (.iload_n 1) 1 72 := ⟨by decide +kernel, rfl⟩
theorem eX9_seesAlong_72 : am_d cX9_seesAlong 72 (.iaload) 1 73 := ⟨by decide +kernel, rfl⟩
theorem eX9_seesAlong_73 : am_d cX9_seesAlong 73 (.aload_n 0) 1 74 := ⟨by decide +kernel, rfl⟩
theorem eX9_seesAlong_74 : am_d cX9_seesAlong 74 (.getfield 13) 3 77 := ⟨by decide +kernel, rfl⟩
theorem eX9_seesAlong_77 : am_d cX9_seesAlong 77 (.iload_n 1) 1 78 := ⟨by decide +kernel, rfl⟩
theorem eX9_seesAlong_78 : am_d cX9_seesAlong 78 (.iconst 1) 1 79 := ⟨by decide +kernel, rfl⟩
theorem eX9_seesAlong_79 : am_d cX9_seesAlong 79 (.iadd) 1 80 := ⟨by decide +kernel, rfl⟩
theorem eX9_seesAlong_80 : am_d cX9_seesAlong 80 (.iaload) 1 81 := ⟨by decide +kernel, rfl⟩
theorem eX9_seesAlong_81 : am_d cX9_seesAlong 81 (.aload_n 0) 1 82 := ⟨by decide +kernel, rfl⟩
theorem eX9_seesAlong_82 : am_d cX9_seesAlong 82 (.getfield 13) 3 85 := ⟨by decide +kernel, rfl⟩
theorem eX9_seesAlong_85 : am_d cX9_seesAlong 85 (.iload_n 1) 1 86 := ⟨by decide +kernel, rfl⟩
theorem eX9_seesAlong_86 : am_d cX9_seesAlong 86 (.iaload) 1 87 := ⟨by decide +kernel, rfl⟩
theorem eX9_seesAlong_87 : am_d cX9_seesAlong 87 (.isub) 1 88 := ⟨by decide +kernel, rfl⟩
theorem eX9_seesAlong_88 : am_d cX9_seesAlong 88 (.aload_n 0) 1 89 := ⟨by decide +kernel, rfl⟩
theorem eX9_seesAlong_89 : am_d cX9_seesAlong 89 (.getfield 32) 3 92 := ⟨by decide +kernel, rfl⟩
theorem eX9_seesAlong_92 : am_d cX9_seesAlong 92 (.iload 4) 2 94 := ⟨by decide +kernel, rfl⟩
theorem eX9_seesAlong_94 : am_d cX9_seesAlong 94 (.iaload) 1 95 := ⟨by decide +kernel, rfl⟩
theorem eX9_seesAlong_95 : am_d cX9_seesAlong 95 (.imul) 1 96 := ⟨by decide +kernel, rfl⟩
theorem eX9_seesAlong_96 : am_d cX9_seesAlong 96 (.iload_n 2) 1 97 := ⟨by decide +kernel, rfl⟩
theorem eX9_seesAlong_97 : am_d cX9_seesAlong 97 (.invokestatic 151) 3 100 := ⟨by decide +kernel, rfl⟩
theorem eX9_seesAlong_100 : am_d cX9_seesAlong 100 (.iadd) 1 101 := ⟨by decide +kernel, rfl⟩
theorem eX9_seesAlong_101 : am_d cX9_seesAlong 101 (.istore 5) 2 103 := ⟨by decide +kernel, rfl⟩
theorem eX9_seesAlong_103 : am_d cX9_seesAlong 103 (.iload_n 3) 1 104 := ⟨by decide +kernel, rfl⟩
theorem eX9_seesAlong_104 : am_b cX9_seesAlong 104 (.ifCond .eq 19) (19) 107 123 := ⟨by decide +kernel, rfl, by decide⟩
theorem eX9_seesAlong_107 : am_d cX9_seesAlong 107 (.aload_n 0) 1 108 := ⟨by decide +kernel, rfl⟩
theorem eX9_seesAlong_108 : am_d cX9_seesAlong 108 (.getfield 29) 3 111 := ⟨by decide +kernel, rfl⟩
theorem eX9_seesAlong_111 : am_d cX9_seesAlong 111 (.iload 4) 2 113 := ⟨by decide +kernel, rfl⟩
theorem eX9_seesAlong_113 : am_d cX9_seesAlong 113 (.iaload) 1 114 := ⟨by decide +kernel, rfl⟩
theorem eX9_seesAlong_114 : am_d cX9_seesAlong 114 (.iload 5) 2 116 := ⟨by decide +kernel, rfl⟩
theorem eX9_seesAlong_116 : am_b cX9_seesAlong 116 (.if_icmp .gt 7) (7) 119 123 := ⟨by decide +kernel, rfl, by decide⟩
theorem eX9_seesAlong_119 : am_d cX9_seesAlong 119 (.iconst 1) 1 120 := ⟨by decide +kernel, rfl⟩
theorem eX9_seesAlong_120 : am_b cX9_seesAlong 120 (.goto 4) (4) 123 124 := ⟨by decide +kernel, rfl, by decide⟩
theorem eX9_seesAlong_123 : am_d cX9_seesAlong 123 (.iconst 0) 1 124 := ⟨by decide +kernel, rfl⟩
theorem eX9_seesAlong_124 : am_d cX9_seesAlong 124 (.istore_n 3) 1 125 := ⟨by decide +kernel, rfl⟩
theorem eX9_seesAlong_125 : am_d cX9_seesAlong 125 (.iinc 4 1) 3 128 := ⟨by decide +kernel, rfl⟩
theorem eX9_seesAlong_128 : am_b cX9_seesAlong 128 (.goto (-76)) (-76) 131 52 := ⟨by decide +kernel, rfl, by decide⟩
theorem eX9_seesAlong_131 : am_d cX9_seesAlong 131 (.iload_n 3) 1 132 := ⟨by decide +kernel, rfl⟩
theorem eX9_seesAlong_132 : am_d cX9_seesAlong 132 (.ireturn) 1 133 := ⟨by decide +kernel, rfl⟩
theorem eX9_spotOf_0 : am_d cX9_spotOf 0 (.iconst (-1)) 1 1 := ⟨by decide +kernel, rfl⟩
theorem eX9_spotOf_1 : am_d cX9_spotOf 1 (.istore_n 3) 1 2 := ⟨by decide +kernel, rfl⟩
theorem eX9_spotOf_2 : am_d cX9_spotOf 2 (.sipush 200) 3 5 := ⟨by decide +kernel, rfl⟩
theorem eX9_spotOf_5 : am_d cX9_spotOf 5 (.iload_n 1) 1 6 := ⟨by decide +kernel, rfl⟩
theorem eX9_spotOf_6 : am_d cX9_spotOf 6 (.imul) 1 7 := ⟨by decide +kernel, rfl⟩
theorem eX9_spotOf_7 : am_d cX9_spotOf 7 (.istore 4) 2 9 := ⟨by decide +kernel, rfl⟩
theorem eX9_spotOf_9 : am_d cX9_spotOf 9 (.iload 4) 2 11 := ⟨by decide +kernel, rfl⟩
theorem eX9_spotOf_11 : am_d cX9_spotOf 11 (.sipush 200) 3 14 := ⟨by decide +kernel, rfl⟩
theorem eX9_spotOf_14 : am_d cX9_spotOf 14 (.iload_n 1) 1 15 := ⟨by decide +kernel, rfl⟩
theorem eX9_spotOf_15 : am_d cX9_spotOf 15 (.imul) 1 16 := ⟨by decide +kernel, rfl⟩
theorem eX9_spotOf_16 : am_d cX9_spotOf 16 (.aload_n 0) 1 17 := ⟨by decide +kernel, rfl⟩
theorem eX9_spotOf_17 : am_d cX9_spotOf 17 (.getfield 63) 3 20 := ⟨by decide +kernel, rfl⟩
theorem eX9_spotOf_20 : am_d cX9_spotOf 20 (.iload_n 1) 1 21 := ⟨by decide +kernel, rfl⟩
theorem eX9_spotOf_21 : am_d cX9_spotOf 21 (.iaload) 1 22 := ⟨by decide +kernel, rfl⟩
theorem eX9_spotOf_22 : am_d cX9_spotOf 22 (.iadd) 1 23 := ⟨by decide +kernel, rfl⟩
theorem eX9_spotOf_23 : am_b cX9_spotOf 23 (.if_icmp .ge 27) (27) 26 50 := ⟨by decide +kernel, rfl, by decide⟩
theorem eX9_spotOf_26 : am_d cX9_spotOf 26 (.aload_n 0) 1 27 := ⟨by decide +kernel, rfl⟩
theorem eX9_spotOf_27 : am_d cX9_spotOf 27 (.getfield 66) 3 30 := ⟨by decide +kernel, rfl⟩
theorem eX9_spotOf_30 : am_d cX9_spotOf 30 (.iload 4) 2 32 := ⟨by decide +kernel, rfl⟩
theorem eX9_spotOf_32 : am_d cX9_spotOf 32 (.iaload) 1 33 := ⟨by decide +kernel, rfl⟩
theorem eX9_spotOf_33 : am_d cX9_spotOf 33 (.iload_n 2) 1 34 := ⟨by decide +kernel, rfl⟩
theorem eX9_spotOf_34 : am_b cX9_spotOf 34 (.if_icmp .ne 8) (8) 37 42 := ⟨by decide +kernel, rfl, by decide⟩
theorem eX9_spotOf_37 : am_d cX9_spotOf 37 (.iload 4) 2 39 := ⟨by decide +kernel, rfl⟩
theorem eX9_spotOf_39 : am_b cX9_spotOf 39 (.goto 4) (4) 42 43 := ⟨by decide +kernel, rfl, by decide⟩
theorem eX9_spotOf_42 : am_d cX9_spotOf 42 (.iload_n 3) 1 43 := ⟨by decide +kernel, rfl⟩
theorem eX9_spotOf_43 : am_d cX9_spotOf 43 (.istore_n 3) 1 44 := ⟨by decide +kernel, rfl⟩
theorem eX9_spotOf_44 : am_d cX9_spotOf 44 (.iinc 4 1) 3 47 := ⟨by decide +kernel, rfl⟩
theorem eX9_spotOf_47 : am_b cX9_spotOf 47 (.goto (-38)) (-38) 50 9 := ⟨by decide +kernel, rfl, by decide⟩
theorem eX9_spotOf_50 : am_d cX9_spotOf 50 (.iload_n 3) 1 51 := ⟨by decide +kernel, rfl⟩
theorem eX9_spotOf_51 : am_d cX9_spotOf 51 (.ireturn) 1 52 := ⟨by decide +kernel, rfl⟩
theorem eX9_write_0 : am_d cX9_write 0 (.aload_n 0) 1 1 := ⟨by decide +kernel, rfl⟩
theorem eX9_write_1 : am_d cX9_write 1 (.iload_n 1) 1 2 := ⟨by decide +kernel, rfl⟩
theorem eX9_write_2 : am_d cX9_write 2 (.invokestatic 155) 3 5 := ⟨by decide +kernel, rfl⟩
theorem eX9_write_5 : am_b cX9_write 5 (.ifCond .ne 7) (7) 8 12 := ⟨by decide +kernel, rfl, by decide⟩
theorem eX9_write_8 : am_d cX9_write 8 (.iconst 1) 1 9 := ⟨by decide +kernel, rfl⟩
theorem eX9_write_9 : am_b cX9_write 9 (.goto 40) (40) 12 49 := ⟨by decide +kernel, rfl, by decide⟩
theorem eX9_write_12 : am_d cX9_write 12 (.iload_n 2) 1 13 := ⟨by decide +kernel, rfl⟩
theorem eX9_write_13 : am_d cX9_write 13 (.iconst 0) 1 14 := ⟨by decide +kernel, rfl⟩
theorem eX9_write_14 : am_d cX9_write 14 (.bipush 91) 2 16 := ⟨by decide +kernel, rfl⟩
theorem eX9_write_16 : am_d cX9_write 16 (.invokestatic 129) 3 19 := ⟨by decide +kernel, rfl⟩
theorem eX9_write_19 : am_b cX9_write 19 (.ifCond .eq 25) (25) 22 44 := ⟨by decide +kernel, rfl, by decide⟩
theorem eX9_write_22 : am_d cX9_write 22 (.iload_n 3) 1 23 := ⟨by decide +kernel, rfl⟩
theorem eX9_write_23 : am_d cX9_write 23 (.iconst 0) 1 24 := ⟨by decide +kernel, rfl⟩
theorem eX9_write_24 : am_d cX9_write 24 (.bipush 91) 2 26 := ⟨by decide +kernel, rfl⟩
theorem eX9_write_26 : am_d cX9_write 26 (.invokestatic 129) 3 29 := ⟨by decide +kernel, rfl⟩
theorem eX9_write_29 : am_b cX9_write 29 (.ifCond .eq 15) (15) 32 44 := ⟨by decide +kernel, rfl, by decide⟩
theorem eX9_write_32 : am_d cX9_write 32 (.iload 4) 2 34 := ⟨by decide +kernel, rfl⟩
theorem eX9_write_34 : am_d cX9_write 34 (.iconst (-1)) 1 35 := ⟨by decide +kernel, rfl⟩
theorem eX9_write_35 : am_d cX9_write 35 (.sipush 9999) 3 38 := ⟨by decide +kernel, rfl⟩
theorem eX9_write_38 : am_d cX9_write 38 (.invokestatic 129) 3 41 := ⟨by decide +kernel, rfl⟩
theorem eX9_write_41 : am_b cX9_write 41 (.ifCond .ne 7) (7) 44 48 := ⟨by decide +kernel, rfl, by decide⟩
theorem eX9_write_44 : am_d cX9_write 44 (.iconst 2) 1 45 := ⟨by decide +kernel, rfl⟩
theorem eX9_write_45 : am_b cX9_write 45 (.goto 4) (4) 48 49 := ⟨by decide +kernel, rfl, by decide⟩
theorem eX9_write_48 : am_d cX9_write 48 (.iconst 0) 1 49 := ⟨by decide +kernel, rfl⟩
theorem eX9_write_49 : am_d cX9_write 49 (.putfield 123) 3 52 := ⟨by decide +kernel, rfl⟩
theorem eX9_write_52 : am_d cX9_write 52 (.aload_n 0) 1 53 := ⟨by decide +kernel, rfl⟩
theorem eX9_write_53 : am_d cX9_write 53 (.getfield 123) 3 56 := ⟨by decide +kernel, rfl⟩
theorem eX9_write_56 : am_b cX9_write 56 (.ifCond .le 5) (5) 59 61 := ⟨by decide +kernel, rfl, by decide⟩
theorem eX9_write_59 : am_d cX9_write 59 (.iconst 0) 1 60 := ⟨by decide +kernel, rfl⟩
theorem eX9_write_60 : am_d cX9_write 60 (.ireturn) 1 61 := ⟨by decide +kernel, rfl⟩
theorem eX9_write_61 : am_d cX9_write 61 (.aload_n 0) 1 62 := ⟨by decide +kernel, rfl⟩
theorem eX9_write_62 : am_d cX9_write 62 (.iload_n 1) 1 63 := ⟨by decide +kernel, rfl⟩
theorem eX9_write_63 : am_d cX9_write 63 (.bipush 92) 2 65 := ⟨by decide +kernel, rfl⟩
theorem eX9_write_65 : am_d cX9_write 65 (.iload_n 2) 1 66 := ⟨by decide +kernel, rfl⟩
theorem eX9_write_66 : am_d cX9_write 66 (.imul) 1 67 := ⟨by decide +kernel, rfl⟩
theorem eX9_write_67 : am_d cX9_write 67 (.iload_n 3) 1 68 := ⟨by decide +kernel, rfl⟩
theorem eX9_write_68 : am_d cX9_write 68 (.iadd) 1 69 := ⟨by decide +kernel, rfl⟩
theorem eX9_write_69 : am_d cX9_write 69 (.invokevirtual 158) 3 72 := ⟨by decide +kernel, rfl⟩
theorem eX9_write_72 : am_d cX9_write 72 (.istore 5) 2 74 := ⟨by decide +kernel, rfl⟩
theorem eX9_write_74 : am_d cX9_write 74 (.aload_n 0) 1 75 := ⟨by decide +kernel, rfl⟩
theorem eX9_write_75 : am_d cX9_write 75 (.iload 5) 2 77 := ⟨by decide +kernel, rfl⟩
theorem eX9_write_77 : am_d cX9_write 77 (.iconst (-1)) 1 78 := ⟨by decide +kernel, rfl⟩
theorem eX9_write_78 : am_b cX9_write 78 (.if_icmp .ne 25) (25) 81 103 := ⟨by decide +kernel, rfl, by decide⟩
theorem eX9_write_81 : am_d cX9_write 81 (.iload 4) 2 83 := ⟨by decide +kernel, rfl⟩
theorem eX9_write_83 : am_d cX9_write 83 (.iconst (-1)) 1 84 := ⟨by decide +kernel, rfl⟩
theorem eX9_write_84 : am_b cX9_write 84 (.if_icmp .eq 19) (19) 87 103 := ⟨by decide +kernel, rfl, by decide⟩
theorem eX9_write_87 : am_d cX9_write 87 (.aload_n 0) 1 88 := ⟨by decide +kernel, rfl⟩
theorem eX9_write_88 : am_d cX9_write 88 (.getfield 63) 3 91 := ⟨by decide +kernel, rfl⟩
theorem eX9_write_91 : am_d cX9_write 91 (.iload_n 1) 1 92 := ⟨by decide +kernel, rfl⟩
theorem eX9_write_92 : am_d cX9_write 92 (.iaload) 1 93 := ⟨by decide +kernel, rfl⟩
theorem eX9_write_93 : am_d cX9_write 93 (.sipush 200) 3 96 := ⟨by decide +kernel, rfl⟩
theorem eX9_write_96 : am_b cX9_write 96 (.if_icmp .ne 7) (7) 99 103 := ⟨by decide +kernel, rfl, by decide⟩
theorem eX9_write_99 : am_d cX9_write 99 (.iconst 3) 1 100 := ⟨by decide +kernel, rfl⟩
theorem eX9_write_100 : am_b cX9_write 100 (.goto 4) (4) 103 104 := ⟨by decide +kernel, rfl, by decide⟩
theorem eX9_write_103 : am_d cX9_write 103 (.iconst 0) 1 104 := ⟨by decide +kernel, rfl⟩
theorem eX9_write_104 : am_d cX9_write 104 (.putfield 123) 3 107 := ⟨by decide +kernel, rfl⟩
theorem eX9_write_107 : am_d cX9_write 107 (.aload_n 0) 1 108 := ⟨by decide +kernel, rfl⟩
theorem eX9_write_108 : am_d cX9_write 108 (.getfield 123) 3 111 := ⟨by decide +kernel, rfl⟩
theorem eX9_write_111 : am_b cX9_write 111 (.ifCond .le 5) (5) 114 116 := ⟨by decide +kernel, rfl, by decide⟩
theorem eX9_write_114 : am_d cX9_write 114 (.iconst 0) 1 115 := ⟨by decide +kernel, rfl⟩
theorem eX9_write_115 : am_d cX9_write 115 (.ireturn) 1 116 := ⟨by decide +kernel, rfl⟩
theorem eX9_write_116 : am_d cX9_write 116 (.iload 5) 2 118 := ⟨by decide +kernel, rfl⟩
theorem eX9_write_118 : am_d cX9_write 118 (.iconst (-1)) 1 119 := ⟨by decide +kernel, rfl⟩
theorem eX9_write_119 : am_b cX9_write 119 (.if_icmp .ne 7) (7) 122 126 := ⟨by decide +kernel, rfl, by decide⟩
theorem eX9_write_122 : am_d cX9_write 122 (.iconst (-1)) 1 123 := ⟨by decide +kernel, rfl⟩
theorem eX9_write_123 : am_b cX9_write 123 (.goto 10) (10) 126 133 := ⟨by decide +kernel, rfl, by decide⟩
theorem eX9_write_126 : am_d cX9_write 126 (.aload_n 0) 1 127 := ⟨by decide +kernel, rfl⟩
theorem eX9_write_127 : am_d cX9_write 127 (.getfield 69) 3 130 := ⟨by decide +kernel, rfl⟩
theorem eX9_write_130 : am_d cX9_write 130 (.iload 5) 2 132 := ⟨by decide +kernel, rfl⟩
theorem eX9_write_132 : am_d cX9_write 132 (.iaload) 1 133 := ⟨by decide +kernel, rfl⟩
theorem eX9_write_133 : am_d cX9_write 133 (.istore 6) 2 135 := ⟨by decide +kernel, rfl⟩
theorem eX9_write_135 : am_d cX9_write 135 (.iload 4) 2 137 := ⟨by decide +kernel, rfl⟩
theorem eX9_write_137 : am_d cX9_write 137 (.iconst (-1)) 1 138 := ⟨by decide +kernel, rfl⟩
theorem eX9_write_138 : am_b cX9_write 138 (.if_icmp .eq 73) (73) 141 211 := ⟨by decide +kernel, rfl, by decide⟩
theorem eX9_write_141 : am_d cX9_write 141 (.iload 5) 2 143 := ⟨by decide +kernel, rfl⟩
theorem eX9_write_143 : am_d cX9_write 143 (.iconst (-1)) 1 144 := ⟨by decide +kernel, rfl⟩
theorem eX9_write_144 : am_b cX9_write 144 (.if_icmp .ne 18) (18) 147 162 := ⟨by decide +kernel, rfl, by decide⟩
theorem eX9_write_147 : am_d cX9_write 147 (.sipush 200) 3 150 := ⟨by decide +kernel, rfl⟩
theorem eX9_write_150 : am_d cX9_write 150 (.iload_n 1) 1 151 := ⟨by decide +kernel, rfl⟩
theorem eX9_write_151 : am_d cX9_write 151 (.imul) 1 152 := ⟨by decide +kernel, rfl⟩
theorem eX9_write_152 : am_d cX9_write 152 (.aload_n 0) 1 153 := ⟨by decide +kernel, rfl⟩
theorem eX9_write_153 : am_d cX9_write 153 (.getfield 63) 3 156 := ⟨by decide +kernel, rfl⟩
theorem eX9_write_156 : am_d cX9_write 156 (.iload_n 1) 1 157 := ⟨by decide +kernel, rfl⟩
theorem eX9_write_157 : am_d cX9_write 157 (.iaload) 1 158 := ⟨by decide +kernel, rfl⟩
theorem eX9_write_158 : am_d cX9_write 158 (.iadd) 1 159 := ⟨by decide +kernel, rfl⟩
theorem eX9_write_159 : am_b cX9_write 159 (.goto 5) (5) 162 164 := ⟨by decide +kernel, rfl, by decide⟩
theorem eX9_write_162 : am_d cX9_write 162 (.iload 5) 2 164 := ⟨by decide +kernel, rfl⟩
theorem eX9_write_164 : am_d cX9_write 164 (.istore 7) 2 166 := ⟨by decide +kernel, rfl⟩
theorem eX9_write_166 : am_d cX9_write 166 (.aload_n 0) 1 167 := ⟨by decide +kernel, rfl⟩
theorem eX9_write_167 : am_d cX9_write 167 (.getfield 63) 3 170 := ⟨by decide +kernel, rfl⟩
theorem eX9_write_170 : am_d cX9_write 170 (.iload_n 1) 1 171 := ⟨by decide +kernel, rfl⟩
theorem eX9_write_171 : am_d cX9_write 171 (.dup2) 1 172 := ⟨by decide +kernel, rfl⟩
theorem eX9_write_172 : am_d cX9_write 172 (.iaload) 1 173 := ⟨by decide +kernel, rfl⟩
theorem eX9_write_173 : am_d cX9_write 173 (.iload 5) 2 175 := ⟨by decide +kernel, rfl⟩
theorem eX9_write_175 : am_d cX9_write 175 (.iconst (-1)) 1 176 := ⟨by decide +kernel, rfl⟩
theorem eX9_write_176 : am_b cX9_write 176 (.if_icmp .ne 7) (7) 179 183 := ⟨by decide +kernel, rfl, by decide⟩
theorem eX9_write_179 : am_d cX9_write 179 (.iconst 1) 1 180 := ⟨by decide +kernel, rfl⟩
theorem eX9_write_180 : am_b cX9_write 180 (.goto 4) (4) 183 184 := ⟨by decide +kernel, rfl, by decide⟩
theorem eX9_write_183 : am_d cX9_write 183 (.iconst 0) 1 184 := ⟨by decide +kernel, rfl⟩
theorem eX9_write_184 : am_d cX9_write 184 (.iadd) 1 185 := ⟨by decide +kernel, rfl⟩
theorem eX9_write_185 : am_d cX9_write 185 (.iastore) 1 186 := ⟨by decide +kernel, rfl⟩
theorem eX9_write_186 : am_d cX9_write 186 (.aload_n 0) 1 187 := ⟨by decide +kernel, rfl⟩
theorem eX9_write_187 : am_d cX9_write 187 (.getfield 66) 3 190 := ⟨by decide +kernel, rfl⟩
theorem eX9_write_190 : am_d cX9_write 190 (.iload 7) 2 192 := ⟨by decide +kernel, rfl⟩
theorem eX9_write_192 : am_d cX9_write 192 (.bipush 92) 2 194 := ⟨by decide +kernel, rfl⟩
theorem eX9_write_194 : am_d cX9_write 194 (.iload_n 2) 1 195 := ⟨by decide +kernel, rfl⟩
theorem eX9_write_195 : am_d cX9_write 195 (.imul) 1 196 := ⟨by decide +kernel, rfl⟩
theorem eX9_write_196 : am_d cX9_write 196 (.iload_n 3) 1 197 := ⟨by decide +kernel, rfl⟩
theorem eX9_write_197 : am_d cX9_write 197 (.iadd) 1 198 := ⟨by decide +kernel, rfl⟩
theorem eX9_write_198 : am_d cX9_write 198 (.iastore) 1 199 := ⟨by decide +kernel, rfl⟩
theorem eX9_write_199 : am_d cX9_write 199 (.aload_n 0) 1 200 := ⟨by decide +kernel, rfl⟩
theorem eX9_write_200 : am_d cX9_write 200 (.getfield 69) 3 203 := ⟨by decide +kernel, rfl⟩
theorem eX9_write_203 : am_d cX9_write 203 (.iload 7) 2 205 := ⟨by decide +kernel, rfl⟩
theorem eX9_write_205 : am_d cX9_write 205 (.iload 4) 2 207 := ⟨by decide +kernel, rfl⟩
theorem eX9_write_207 : am_d cX9_write 207 (.iastore) 1 208 := ⟨by decide +kernel, rfl⟩
theorem eX9_write_208 : am_b cX9_write 208 (.goto 67) (67) 211 275 := ⟨by decide +kernel, rfl, by decide⟩
theorem eX9_write_211 : am_d cX9_write 211 (.iload 5) 2 213 := ⟨by decide +kernel, rfl⟩
theorem eX9_write_213 : am_d cX9_write 213 (.iconst (-1)) 1 214 := ⟨by decide +kernel, rfl⟩
theorem eX9_write_214 : am_b cX9_write 214 (.if_icmp .eq 61) (61) 217 275 := ⟨by decide +kernel, rfl, by decide⟩
theorem eX9_write_217 : am_d cX9_write 217 (.aload_n 0) 1 218 := ⟨by decide +kernel, rfl⟩
theorem eX9_write_218 : am_d cX9_write 218 (.getfield 63) 3 221 := ⟨by decide +kernel, rfl⟩
theorem eX9_write_221 : am_d cX9_write 221 (.iload_n 1) 1 222 := ⟨by decide +kernel, rfl⟩
theorem eX9_write_222 : am_d cX9_write 222 (.dup2) 1 223 := ⟨by decide +kernel, rfl⟩
theorem eX9_write_223 : am_d cX9_write 223 (.iaload) 1 224 := ⟨by decide +kernel, rfl⟩
theorem eX9_write_224 : am_d cX9_write 224 (.iconst 1) 1 225 := ⟨by decide +kernel, rfl⟩
theorem eX9_write_225 : am_d cX9_write 225 (.isub) 1 226 := ⟨by decide +kernel, rfl⟩
theorem eX9_write_226 : am_d cX9_write 226 (.iastore) 1 227 := ⟨by decide +kernel, rfl⟩
theorem eX9_write_227 : am_d cX9_write 227 (.aload_n 0) 1 228 := ⟨by decide +kernel, rfl⟩
theorem eX9_write_228 : am_d cX9_write 228 (.getfield 66) 3 231 := ⟨by decide +kernel, rfl⟩
theorem eX9_write_231 : am_d cX9_write 231 (.iload 5) 2 233 := ⟨by decide +kernel, rfl⟩
theorem eX9_write_233 : am_d cX9_write 233 (.aload_n 0) 1 234 := ⟨by decide +kernel, rfl⟩
theorem eX9_write_234 : am_d cX9_write 234 (.getfield 66) 3 237 := ⟨by decide +kernel, rfl⟩
theorem eX9_write_237 : am_d cX9_write 237 (.sipush 200) 3 240 := ⟨by decide +kernel, rfl⟩
theorem eX9_write_240 : am_d cX9_write 240 (.iload_n 1) 1 241 := ⟨by decide +kernel, rfl⟩
theorem eX9_write_241 : am_d cX9_write 241 (.imul) 1 242 := ⟨by decide +kernel, rfl⟩
theorem eX9_write_242 : am_d cX9_write 242 (.aload_n 0) 1 243 := ⟨by decide +kernel, rfl⟩
theorem eX9_write_243 : am_d cX9_write 243 (.getfield 63) 3 246 := ⟨by decide +kernel, rfl⟩
theorem eX9_write_246 : am_d cX9_write 246 (.iload_n 1) 1 247 := ⟨by decide +kernel, rfl⟩
theorem eX9_write_247 : am_d cX9_write 247 (.iaload) 1 248 := ⟨by decide +kernel, rfl⟩
theorem eX9_write_248 : am_d cX9_write 248 (.iadd) 1 249 := ⟨by decide +kernel, rfl⟩
theorem eX9_write_249 : am_d cX9_write 249 (.iaload) 1 250 := ⟨by decide +kernel, rfl⟩
theorem eX9_write_250 : am_d cX9_write 250 (.iastore) 1 251 := ⟨by decide +kernel, rfl⟩
theorem eX9_write_251 : am_d cX9_write 251 (.aload_n 0) 1 252 := ⟨by decide +kernel, rfl⟩
theorem eX9_write_252 : am_d cX9_write 252 (.getfield 69) 3 255 := ⟨by decide +kernel, rfl⟩
theorem eX9_write_255 : am_d cX9_write 255 (.iload 5) 2 257 := ⟨by decide +kernel, rfl⟩
theorem eX9_write_257 : am_d cX9_write 257 (.aload_n 0) 1 258 := ⟨by decide +kernel, rfl⟩
theorem eX9_write_258 : am_d cX9_write 258 (.getfield 69) 3 261 := ⟨by decide +kernel, rfl⟩
theorem eX9_write_261 : am_d cX9_write 261 (.sipush 200) 3 264 := ⟨by decide +kernel, rfl⟩
theorem eX9_write_264 : am_d cX9_write 264 (.iload_n 1) 1 265 := ⟨by decide +kernel, rfl⟩
theorem eX9_write_265 : am_d cX9_write 265 (.imul) 1 266 := ⟨by decide +kernel, rfl⟩
theorem eX9_write_266 : am_d cX9_write 266 (.aload_n 0) 1 267 := ⟨by decide +kernel, rfl⟩
theorem eX9_write_267 : am_d cX9_write 267 (.getfield 63) 3 270 := ⟨by decide +kernel, rfl⟩
theorem eX9_write_270 : am_d cX9_write 270 (.iload_n 1) 1 271 := ⟨by decide +kernel, rfl⟩
theorem eX9_write_271 : am_d cX9_write 271 (.iaload) 1 272 := ⟨by decide +kernel, rfl⟩
theorem eX9_write_272 : am_d cX9_write 272 (.iadd) 1 273 := ⟨by decide +kernel, rfl⟩
theorem eX9_write_273 : am_d cX9_write 273 (.iaload) 1 274 := ⟨by decide +kernel, rfl⟩
theorem eX9_write_274 : am_d cX9_write 274 (.iastore) 1 275 := ⟨by decide +kernel, rfl⟩
theorem eX9_write_275 : am_d cX9_write 275 (.iload 6) 2 277 := ⟨by decide +kernel, rfl⟩
theorem eX9_write_277 : am_d cX9_write 277 (.ireturn) 1 278 := ⟨by decide +kernel, rfl⟩
theorem eX9_type_0 : am_d cX9_type 0 (.aload_n 0) 1 1 := ⟨by decide +kernel, rfl⟩
theorem eX9_type_1 : am_d cX9_type 1 (.iload_n 1) 1 2 := ⟨by decide +kernel, rfl⟩
theorem eX9_type_2 : am_d cX9_type 2 (.iconst 0) 1 3 := ⟨by decide +kernel, rfl⟩
theorem eX9_type_3 : am_d cX9_type 3 (.sipush 9999) 3 6 := ⟨by decide +kernel, rfl⟩
theorem eX9_type_6 : am_d cX9_type 6 (.invokestatic 129) 3 9 := ⟨by decide +kernel, rfl⟩
theorem eX9_type_9 : am_b cX9_type 9 (.ifCond .ne 7) (7) 12 16 := ⟨by decide +kernel, rfl, by decide⟩
theorem eX9_type_12 : am_d cX9_type 12 (.iconst 1) 1 13 := ⟨by decide +kernel, rfl⟩
theorem eX9_type_13 : am_b cX9_type 13 (.goto 17) (17) 16 30 := ⟨by decide +kernel, rfl, by decide⟩
theorem eX9_type_16 : am_d cX9_type 16 (.aload_n 0) 1 17 := ⟨by decide +kernel, rfl⟩
theorem eX9_type_17 : am_d cX9_type 17 (.getfield 161) 3 20 := ⟨by decide +kernel, rfl⟩
theorem eX9_type_20 : am_d cX9_type 20 (.bipush 12) 2 22 := ⟨by decide +kernel, rfl⟩
theorem eX9_type_22 : am_b cX9_type 22 (.if_icmp .ne 7) (7) 25 29 := ⟨by decide +kernel, rfl, by decide⟩
theorem eX9_type_25 : am_d cX9_type 25 (.iconst 2) 1 26 := ⟨by decide +kernel, rfl⟩
theorem eX9_type_26 : am_b cX9_type 26 (.goto 4) (4) 29 30 := ⟨by decide +kernel, rfl, by decide⟩
theorem eX9_type_29 : am_d cX9_type 29 (.iconst 0) 1 30 := ⟨by decide +kernel, rfl⟩
theorem eX9_type_30 : am_d cX9_type 30 (.putfield 123) 3 33 := ⟨by decide +kernel, rfl⟩
theorem eX9_type_33 : am_d cX9_type 33 (.aload_n 0) 1 34 := ⟨by decide +kernel, rfl⟩
theorem eX9_type_34 : am_d cX9_type 34 (.getfield 123) 3 37 := ⟨by decide +kernel, rfl⟩
theorem eX9_type_37 : am_b cX9_type 37 (.ifCond .le 5) (5) 40 42 := ⟨by decide +kernel, rfl, by decide⟩
theorem eX9_type_40 : am_d cX9_type 40 (.iconst 0) 1 41 := ⟨by decide +kernel, rfl⟩
theorem eX9_type_41 : am_d cX9_type 41 (.ireturn) 1 42 := ⟨by decide +kernel, rfl⟩
theorem eX9_type_42 : am_d cX9_type 42 (.aload_n 0) 1 43 := ⟨by decide +kernel, rfl⟩
theorem eX9_type_43 : am_d cX9_type 43 (.getfield 72) 3 46 := ⟨by decide +kernel, rfl⟩
theorem eX9_type_46 : am_d cX9_type 46 (.aload_n 0) 1 47 := ⟨by decide +kernel, rfl⟩
theorem eX9_type_47 : am_d cX9_type 47 (.getfield 161) 3 50 := ⟨by decide +kernel, rfl⟩
theorem eX9_type_50 : am_d cX9_type 50 (.iload_n 1) 1 51 := ⟨by decide +kernel, rfl⟩
theorem eX9_type_51 : am_d cX9_type 51 (.iastore) 1 52 := ⟨by decide +kernel, rfl⟩
theorem eX9_type_52 : am_d cX9_type 52 (.aload_n 0) 1 53 := ⟨by decide +kernel, rfl⟩
theorem eX9_type_53 : am_d cX9_type 53 (.dup) 1 54 := ⟨by decide +kernel, rfl⟩
theorem eX9_type_54 : am_d cX9_type 54 (.getfield 161) 3 57 := ⟨by decide +kernel, rfl⟩
theorem eX9_type_57 : am_d cX9_type 57 (.iconst 1) 1 58 := ⟨by decide +kernel, rfl⟩
theorem eX9_type_58 : am_d cX9_type 58 (.iadd) 1 59 := ⟨by decide +kernel, rfl⟩
theorem eX9_type_59 : am_d cX9_type 59 (.putfield 161) 3 62 := ⟨by decide +kernel, rfl⟩
theorem eX9_type_62 : am_d cX9_type 62 (.aload_n 0) 1 63 := ⟨by decide +kernel, rfl⟩
theorem eX9_type_63 : am_d cX9_type 63 (.getfield 161) 3 66 := ⟨by decide +kernel, rfl⟩
theorem eX9_type_66 : am_d cX9_type 66 (.ireturn) 1 67 := ⟨by decide +kernel, rfl⟩
theorem eX9_clear_0 : am_d cX9_clear 0 (.aload_n 0) 1 1 := ⟨by decide +kernel, rfl⟩
theorem eX9_clear_1 : am_d cX9_clear 1 (.iconst 0) 1 2 := ⟨by decide +kernel, rfl⟩
theorem eX9_clear_2 : am_d cX9_clear 2 (.putfield 123) 3 5 := ⟨by decide +kernel, rfl⟩
theorem eX9_clear_5 : am_d cX9_clear 5 (.aload_n 0) 1 6 := ⟨by decide +kernel, rfl⟩
theorem eX9_clear_6 : am_d cX9_clear 6 (.getfield 161) 3 9 := ⟨by decide +kernel, rfl⟩
theorem eX9_clear_9 : am_d cX9_clear 9 (.istore_n 1) 1 10 := ⟨by decide +kernel, rfl⟩
theorem eX9_clear_10 : am_d cX9_clear 10 (.aload_n 0) 1 11 := ⟨by decide +kernel, rfl⟩
theorem eX9_clear_11 : am_d cX9_clear 11 (.iconst 0) 1 12 := ⟨by decide +kernel, rfl⟩
theorem eX9_clear_12 : am_d cX9_clear 12 (.putfield 161) 3 15 := ⟨by decide +kernel, rfl⟩
theorem eX9_clear_15 : am_d cX9_clear 15 (.iload_n 1) 1 16 := ⟨by decide +kernel, rfl⟩
theorem eX9_clear_16 : am_d cX9_clear 16 (.ireturn) 1 17 := ⟨by decide +kernel, rfl⟩
theorem eX9_lowestSpot_0 : am_d cX9_lowestSpot 0 (.iconst (-1)) 1 1 := ⟨by decide +kernel, rfl⟩
theorem eX9_lowestSpot_1 : am_d cX9_lowestSpot 1 (.istore_n 3) 1 2 := ⟨by decide +kernel, rfl⟩
theorem eX9_lowestSpot_2 : am_d cX9_lowestSpot 2 (.sipush 200) 3 5 := ⟨by decide +kernel, rfl⟩
theorem eX9_lowestSpot_5 : am_d cX9_lowestSpot 5 (.iload_n 1) 1 6 := ⟨by decide +kernel, rfl⟩
theorem eX9_lowestSpot_6 : am_d cX9_lowestSpot 6 (.imul) 1 7 := ⟨by decide +kernel, rfl⟩
theorem eX9_lowestSpot_7 : am_d cX9_lowestSpot 7 (.istore 4) 2 9 := ⟨by decide +kernel, rfl⟩
theorem eX9_lowestSpot_9 : am_d cX9_lowestSpot 9 (.iload 4) 2 11 := ⟨by decide +kernel, rfl⟩
theorem eX9_lowestSpot_11 : am_d cX9_lowestSpot 11 (.sipush 200) 3 14 := ⟨by decide +kernel, rfl⟩
theorem eX9_lowestSpot_14 : am_d cX9_lowestSpot 14 (.iload_n 1) 1 15 := ⟨by decide +kernel, rfl⟩
theorem eX9_lowestSpot_15 : am_d cX9_lowestSpot 15 (.imul) 1 16 := ⟨by decide +kernel, rfl⟩
theorem eX9_lowestSpot_16 : am_d cX9_lowestSpot 16 (.aload_n 0) 1 17 := ⟨by decide +kernel, rfl⟩
theorem eX9_lowestSpot_17 : am_d cX9_lowestSpot 17 (.getfield 63) 3 20 := ⟨by decide +kernel, rfl⟩
theorem eX9_lowestSpot_20 : am_d cX9_lowestSpot 20 (.iload_n 1) 1 21 := ⟨by decide +kernel, rfl⟩
theorem eX9_lowestSpot_21 : am_d cX9_lowestSpot 21 (.iaload) 1 22 := ⟨by decide +kernel, rfl⟩
theorem eX9_lowestSpot_22 : am_d cX9_lowestSpot 22 (.iadd) 1 23 := ⟨by decide +kernel, rfl⟩
theorem eX9_lowestSpot_23 : am_b cX9_lowestSpot 23 (.if_icmp .ge 48) (48) 26 71 := ⟨by decide +kernel, rfl, by decide⟩
theorem eX9_lowestSpot_26 : am_d cX9_lowestSpot 26 (.aload_n 0) 1 27 := ⟨by decide +kernel, rfl⟩
theorem eX9_lowestSpot_27 : am_d cX9_lowestSpot 27 (.getfield 69) 3 30 := ⟨by decide +kernel, rfl⟩
theorem eX9_lowestSpot_30 : am_d cX9_lowestSpot 30 (.iload 4) 2 32 := ⟨by decide +kernel, rfl⟩
theorem eX9_lowestSpot_32 : am_d cX9_lowestSpot 32 (.iaload) 1 33 := ⟨by decide +kernel, rfl⟩
theorem eX9_lowestSpot_33 : am_d cX9_lowestSpot 33 (.iload_n 2) 1 34 := ⟨by decide +kernel, rfl⟩
theorem eX9_lowestSpot_34 : am_b cX9_lowestSpot 34 (.if_icmp .ne 29) (29) 37 63 := ⟨by decide +kernel, rfl, by decide⟩
theorem eX9_lowestSpot_37 : am_d cX9_lowestSpot 37 (.iload_n 3) 1 38 := ⟨by decide +kernel, rfl⟩
theorem eX9_lowestSpot_38 : am_d cX9_lowestSpot 38 (.iconst (-1)) 1 39 := ⟨by decide +kernel, rfl⟩
theorem eX9_lowestSpot_39 : am_b cX9_lowestSpot 39 (.if_icmp .eq 14) (14) 42 53 := ⟨by decide +kernel, rfl, by decide⟩
theorem eX9_lowestSpot_42 : am_d cX9_lowestSpot 42 (.aload_n 0) 1 43 := ⟨by decide +kernel, rfl⟩
theorem eX9_lowestSpot_43 : am_d cX9_lowestSpot 43 (.getfield 66) 3 46 := ⟨by decide +kernel, rfl⟩
theorem eX9_lowestSpot_46 : am_d cX9_lowestSpot 46 (.iload 4) 2 48 := ⟨by decide +kernel, rfl⟩
theorem eX9_lowestSpot_48 : am_d cX9_lowestSpot 48 (.iaload) 1 49 := ⟨by decide +kernel, rfl⟩
theorem eX9_lowestSpot_49 : am_d cX9_lowestSpot 49 (.iload_n 3) 1 50 := ⟨by decide +kernel, rfl⟩
theorem eX9_lowestSpot_50 : am_b cX9_lowestSpot 50 (.if_icmp .ge 13) (13) 53 63 := ⟨by decide +kernel, rfl, by decide⟩
theorem eX9_lowestSpot_53 : am_d cX9_lowestSpot 53 (.aload_n 0) 1 54 := ⟨by decide +kernel, rfl⟩
theorem eX9_lowestSpot_54 : am_d cX9_lowestSpot 54 (.getfield 66) 3 57 := ⟨by decide +kernel, rfl⟩
theorem eX9_lowestSpot_57 : am_d cX9_lowestSpot 57 (.iload 4) 2 59 := ⟨by decide +kernel, rfl⟩
theorem eX9_lowestSpot_59 : am_d cX9_lowestSpot 59 (.iaload) 1 60 := ⟨by decide +kernel, rfl⟩
theorem eX9_lowestSpot_60 : am_b cX9_lowestSpot 60 (.goto 4) (4) 63 64 := ⟨by decide +kernel, rfl, by decide⟩
theorem eX9_lowestSpot_63 : am_d cX9_lowestSpot 63 (.iload_n 3) 1 64 := ⟨by decide +kernel, rfl⟩
theorem eX9_lowestSpot_64 : am_d cX9_lowestSpot 64 (.istore_n 3) 1 65 := ⟨by decide +kernel, rfl⟩
theorem eX9_lowestSpot_65 : am_d cX9_lowestSpot 65 (.iinc 4 1) 3 68 := ⟨by decide +kernel, rfl⟩
theorem eX9_lowestSpot_68 : am_b cX9_lowestSpot 68 (.goto (-59)) (-59) 71 9 := ⟨by decide +kernel, rfl, by decide⟩
theorem eX9_lowestSpot_71 : am_d cX9_lowestSpot 71 (.iload_n 3) 1 72 := ⟨by decide +kernel, rfl⟩
theorem eX9_lowestSpot_72 : am_d cX9_lowestSpot 72 (.ireturn) 1 73 := ⟨by decide +kernel, rfl⟩
theorem eX9_makesSigns_0 : am_d cX9_makesSigns 0 (.iconst 0) 1 1 := ⟨by decide +kernel, rfl⟩
theorem eX9_makesSigns_1 : am_d cX9_makesSigns 1 (.istore_n 3) 1 2 := ⟨by decide +kernel, rfl⟩
theorem eX9_makesSigns_2 : am_d cX9_makesSigns 2 (.aload_n 0) 1 3 := ⟨by decide +kernel, rfl⟩
theorem eX9_makesSigns_3 : am_d cX9_makesSigns 3 (.getfield 75) 3 6 := ⟨by decide +kernel, rfl⟩
theorem eX9_makesSigns_6 : am_d cX9_makesSigns 6 (.iconst 0) 1 7 := ⟨by decide +kernel, rfl⟩
theorem eX9_makesSigns_7 : am_d cX9_makesSigns 7 (.bipush 96) 2 9 := ⟨by decide +kernel, rfl⟩
theorem eX9_makesSigns_9 : am_d cX9_makesSigns 9 (.iastore) 1 10 := ⟨by decide +kernel, rfl⟩
theorem eX9_makesSigns_10 : am_d cX9_makesSigns 10 (.iload_n 3) 1 11 := ⟨by decide +kernel, rfl⟩
theorem eX9_makesSigns_11 : am_d cX9_makesSigns 11 (.iload_n 2) 1 12 := ⟨by decide +kernel, rfl⟩
theorem eX9_makesSigns_12 : am_b cX9_makesSigns 12 (.ifCond .eq 7) (7) 15 19 := ⟨by decide +kernel, rfl, by decide⟩
theorem eX9_makesSigns_15 : am_d cX9_makesSigns 15 (.iconst 1) 1 16 := ⟨by decide +kernel, rfl⟩
theorem eX9_makesSigns_16 : am_b cX9_makesSigns 16 (.goto 4) (4) 19 20 := ⟨by decide +kernel, rfl, by decide⟩
theorem eX9_makesSigns_19 : am_d cX9_makesSigns 19 (.iconst 0) 1 20 := ⟨by decide +kernel, rfl⟩
theorem eX9_makesSigns_20 : am_d cX9_makesSigns 20 (.iadd) 1 21 := ⟨by decide +kernel, rfl⟩
theorem eX9_makesSigns_21 : am_d cX9_makesSigns 21 (.istore_n 3) 1 22 := ⟨by decide +kernel, rfl⟩
theorem eX9_makesSigns_22 : am_d cX9_makesSigns 22 (.aload_n 0) 1 23 := ⟨by decide +kernel, rfl⟩
theorem eX9_makesSigns_23 : am_d cX9_makesSigns 23 (.getfield 75) 3 26 := ⟨by decide +kernel, rfl⟩
theorem eX9_makesSigns_26 : am_d cX9_makesSigns 26 (.iload_n 3) 1 27 := ⟨by decide +kernel, rfl⟩
theorem eX9_makesSigns_27 : am_d cX9_makesSigns 27 (.bipush 92) 2 29 := ⟨by decide +kernel, rfl⟩
theorem eX9_makesSigns_29 : am_d cX9_makesSigns 29 (.iastore) 1 30 := ⟨by decide +kernel, rfl⟩
theorem eX9_makesSigns_30 : am_d cX9_makesSigns 30 (.iinc 3 1) 3 33 := ⟨by decide +kernel, rfl⟩
theorem eX9_makesSigns_33 : am_d cX9_makesSigns 33 (.iconst 0) 1 34 := ⟨by decide +kernel, rfl⟩
theorem eX9_makesSigns_34 : am_d cX9_makesSigns 34 (.istore 4) 2 36 := ⟨by decide +kernel, rfl⟩
theorem eX9_makesSigns_36 : am_d cX9_makesSigns 36 (.iload 4) 2 38 := ⟨by decide +kernel, rfl⟩
theorem eX9_makesSigns_38 : am_d cX9_makesSigns 38 (.aload_n 0) 1 39 := ⟨by decide +kernel, rfl⟩
theorem eX9_makesSigns_39 : am_d cX9_makesSigns 39 (.getfield 161) 3 42 := ⟨by decide +kernel, rfl⟩
theorem eX9_makesSigns_42 : am_b cX9_makesSigns 42 (.if_icmp .ge 58) (58) 45 100 := ⟨by decide +kernel, rfl, by decide⟩
theorem eX9_makesSigns_45 : am_d cX9_makesSigns 45 (.aload_n 0) 1 46 := ⟨by decide +kernel, rfl⟩
theorem eX9_makesSigns_46 : am_d cX9_makesSigns 46 (.iload_n 1) 1 47 := ⟨by decide +kernel, rfl⟩
theorem eX9_makesSigns_47 : am_d cX9_makesSigns 47 (.aload_n 0) 1 48 := ⟨by decide +kernel, rfl⟩
theorem eX9_makesSigns_48 : am_d cX9_makesSigns 48 (.getfield 72) 3 51 := ⟨by decide +kernel, rfl⟩
theorem eX9_makesSigns_51 : am_d cX9_makesSigns 51 (.iload 4) 2 53 := ⟨by decide +kernel, rfl⟩
theorem eX9_makesSigns_53 : am_d cX9_makesSigns 53 (.iaload) 1 54 := ⟨by decide +kernel, rfl⟩
theorem eX9_makesSigns_54 : am_d cX9_makesSigns 54 (.invokevirtual 164) 3 57 := ⟨by decide +kernel, rfl⟩
theorem eX9_makesSigns_57 : am_d cX9_makesSigns 57 (.istore 5) 2 59 := ⟨by decide +kernel, rfl⟩
theorem eX9_makesSigns_59 : am_d cX9_makesSigns 59 (.iload 5) 2 61 := ⟨by decide +kernel, rfl⟩
theorem eX9_makesSigns_61 : am_d cX9_makesSigns 61 (.iconst (-1)) 1 62 := ⟨by decide +kernel, rfl⟩
theorem eX9_makesSigns_62 : am_b cX9_makesSigns 62 (.if_icmp .ne 5) (5) 65 67 := ⟨by decide +kernel, rfl, by decide⟩
theorem eX9_makesSigns_65 : am_d cX9_makesSigns 65 (.iconst (-1)) 1 66 := ⟨by decide +kernel, rfl⟩
theorem eX9_makesSigns_66 : am_d cX9_makesSigns 66 (.ireturn) 1 67 := ⟨by decide +kernel, rfl⟩
theorem eX9_makesSigns_67 : am_d cX9_makesSigns 67 (.aload_n 0) 1 68 := ⟨by decide +kernel, rfl⟩
theorem eX9_makesSigns_68 : am_d cX9_makesSigns 68 (.getfield 75) 3 71 := ⟨by decide +kernel, rfl⟩
theorem eX9_makesSigns_71 : am_d cX9_makesSigns 71 (.iload_n 3) 1 72 := ⟨by decide +kernel, rfl⟩
theorem eX9_makesSigns_72 : am_d cX9_makesSigns 72 (.iload 5) 2 74 := ⟨by decide +kernel, rfl⟩
theorem eX9_makesSigns_74 : am_d cX9_makesSigns 74 (.bipush 92) 2 76 := ⟨by decide +kernel, rfl⟩
theorem eX9_makesSigns_76 : am_d cX9_makesSigns 76 (.idiv) 1 77 := ⟨by decide +kernel, rfl⟩
theorem eX9_makesSigns_77 : am_d cX9_makesSigns 77 (.iastore) 1 78 := ⟨by decide +kernel, rfl⟩
theorem eX9_makesSigns_78 : am_d cX9_makesSigns 78 (.aload_n 0) 1 79 := ⟨by decide +kernel, rfl⟩
theorem eX9_makesSigns_79 : am_d cX9_makesSigns 79 (.getfield 75) 3 82 := ⟨by decide +kernel, rfl⟩
theorem eX9_makesSigns_82 : am_d cX9_makesSigns 82 (.iload_n 3) 1 83 := ⟨by decide +kernel, rfl⟩
theorem eX9_makesSigns_83 : am_d cX9_makesSigns 83 (.iconst 1) 1 84 := ⟨by decide +kernel, rfl⟩
theorem eX9_makesSigns_84 : am_d cX9_makesSigns 84 (.iadd) 1 85 := ⟨by decide +kernel, rfl⟩
theorem eX9_makesSigns_85 : am_d cX9_makesSigns 85 (.iload 5) 2 87 := ⟨by decide +kernel, rfl⟩
theorem eX9_makesSigns_87 : am_d cX9_makesSigns 87 (.bipush 92) 2 89 := ⟨by decide +kernel, rfl⟩
theorem eX9_makesSigns_89 : am_d cX9_makesSigns 89 (.irem) 1 90 := ⟨by decide +kernel, rfl⟩
theorem eX9_makesSigns_90 : am_d cX9_makesSigns 90 (.iastore) 1 91 := ⟨by decide +kernel, rfl⟩
theorem eX9_makesSigns_91 : am_d cX9_makesSigns 91 (.iinc 3 2) 3 94 := ⟨by decide +kernel, rfl⟩
theorem eX9_makesSigns_94 : am_d cX9_makesSigns 94 (.iinc 4 1) 3 97 := ⟨by decide +kernel, rfl⟩
theorem eX9_makesSigns_97 : am_b cX9_makesSigns 97 (.goto (-61)) (-61) 100 36 := ⟨by decide +kernel, rfl, by decide⟩
theorem eX9_makesSigns_100 : am_d cX9_makesSigns 100 (.aload_n 0) 1 101 := ⟨by decide +kernel, rfl⟩
theorem eX9_makesSigns_101 : am_d cX9_makesSigns 101 (.getfield 75) 3 104 := ⟨by decide +kernel, rfl⟩
theorem eX9_makesSigns_104 : am_d cX9_makesSigns 104 (.iload_n 3) 1 105 := ⟨by decide +kernel, rfl⟩
theorem eX9_makesSigns_105 : am_d cX9_makesSigns 105 (.bipush 93) 2 107 := ⟨by decide +kernel, rfl⟩
theorem eX9_makesSigns_107 : am_d cX9_makesSigns 107 (.iastore) 1 108 := ⟨by decide +kernel, rfl⟩
theorem eX9_makesSigns_108 : am_d cX9_makesSigns 108 (.iload_n 3) 1 109 := ⟨by decide +kernel, rfl⟩
theorem eX9_makesSigns_109 : am_d cX9_makesSigns 109 (.iconst 1) 1 110 := ⟨by decide +kernel, rfl⟩
theorem eX9_makesSigns_110 : am_d cX9_makesSigns 110 (.iadd) 1 111 := ⟨by decide +kernel, rfl⟩
theorem eX9_makesSigns_111 : am_d cX9_makesSigns 111 (.ireturn) 1 112 := ⟨by decide +kernel, rfl⟩
theorem eX9_keepsAt_0 : am_d cX9_keepsAt 0 (.aload_n 0) 1 1 := ⟨by decide +kernel, rfl⟩
theorem eX9_keepsAt_1 : am_d cX9_keepsAt 1 (.getfield 35) 3 4 := ⟨by decide +kernel, rfl⟩
theorem eX9_keepsAt_4 : am_d cX9_keepsAt 4 (.iload_n 1) 1 5 := ⟨by decide +kernel, rfl⟩
theorem eX9_keepsAt_5 : am_d cX9_keepsAt 5 (.iaload) 1 6 := ⟨by decide +kernel, rfl⟩
theorem eX9_keepsAt_6 : am_d cX9_keepsAt 6 (.istore 4) 2 8 := ⟨by decide +kernel, rfl⟩
theorem eX9_keepsAt_8 : am_d cX9_keepsAt 8 (.iload 4) 2 10 := ⟨by decide +kernel, rfl⟩
theorem eX9_keepsAt_10 : am_d cX9_keepsAt 10 (.iload_n 2) 1 11 := ⟨by decide +kernel, rfl⟩
theorem eX9_keepsAt_11 : am_b cX9_keepsAt 11 (.if_icmp .le 37) (37) 14 48 := ⟨by decide +kernel, rfl, by decide⟩
theorem eX9_keepsAt_14 : am_d cX9_keepsAt 14 (.aload_n 0) 1 15 := ⟨by decide +kernel, rfl⟩
theorem eX9_keepsAt_15 : am_d cX9_keepsAt 15 (.getfield 41) 3 18 := ⟨by decide +kernel, rfl⟩
theorem eX9_keepsAt_18 : am_d cX9_keepsAt 18 (.sipush 220) 3 21 := ⟨by decide +kernel, rfl⟩
theorem eX9_keepsAt_21 : am_d cX9_keepsAt 21 (.iload_n 1) 1 22 := ⟨by decide +kernel, rfl⟩
theorem eX9_keepsAt_22 : am_d cX9_keepsAt 22 (.imul) 1 23 := ⟨by decide +kernel, rfl⟩
theorem eX9_keepsAt_23 : am_d cX9_keepsAt 23 (.iload 4) 2 25 := ⟨by decide +kernel, rfl⟩
theorem eX9_keepsAt_25 : am_d cX9_keepsAt 25 (.iadd) 1 26 := ⟨by decide +kernel, rfl⟩
theorem eX9_keepsAt_26 : am_d cX9_keepsAt 26 (.aload_n 0) 1 27 := ⟨by decide +kernel, rfl⟩
theorem eX9_keepsAt_27 : am_d cX9_keepsAt 27 (.getfield 41) 3 30 := ⟨by decide +kernel, rfl⟩
theorem eX9_keepsAt_30 : am_d cX9_keepsAt 30 (.sipush 220) 3 33 := ⟨by decide +kernel, rfl⟩
theorem eX9_keepsAt_33 : am_d cX9_keepsAt 33 (.iload_n 1) 1 34 := ⟨by decide +kernel, rfl⟩
theorem eX9_keepsAt_34 : am_d cX9_keepsAt 34 (.imul) 1 35 := ⟨by decide +kernel, rfl⟩
theorem eX9_keepsAt_35 : am_d cX9_keepsAt 35 (.iload 4) 2 37 := ⟨by decide +kernel, rfl⟩
theorem eX9_keepsAt_37 : am_d cX9_keepsAt 37 (.iadd) 1 38 := ⟨by decide +kernel, rfl⟩
theorem eX9_keepsAt_38 : am_d cX9_keepsAt 38 (.iconst 1) 1 39 := ⟨by decide +kernel, rfl⟩
theorem eX9_keepsAt_39 : am_d cX9_keepsAt 39 (.isub) 1 40 := ⟨by decide +kernel, rfl⟩
theorem eX9_keepsAt_40 : am_d cX9_keepsAt 40 (.iaload) 1 41 := ⟨by decide +kernel, rfl⟩
theorem eX9_keepsAt_41 : am_d cX9_keepsAt 41 (.iastore) 1 42 := ⟨by decide +kernel, rfl⟩
theorem eX9_keepsAt_42 : am_d cX9_keepsAt 42 (.iinc 4 (-1)) 3 45 := ⟨by decide +kernel, rfl⟩
theorem eX9_keepsAt_45 : am_b cX9_keepsAt 45 (.goto (-37)) (-37) 48 8 := ⟨by decide +kernel, rfl, by decide⟩
theorem eX9_keepsAt_48 : am_d cX9_keepsAt 48 (.aload_n 0) 1 49 := ⟨by decide +kernel, rfl⟩
theorem eX9_keepsAt_49 : am_d cX9_keepsAt 49 (.getfield 41) 3 52 := ⟨by decide +kernel, rfl⟩
theorem eX9_keepsAt_52 : am_d cX9_keepsAt 52 (.sipush 220) 3 55 := ⟨by decide +kernel, rfl⟩
theorem eX9_keepsAt_55 : am_d cX9_keepsAt 55 (.iload_n 1) 1 56 := ⟨by decide +kernel, rfl⟩
theorem eX9_keepsAt_56 : am_d cX9_keepsAt 56 (.imul) 1 57 := ⟨by decide +kernel, rfl⟩
theorem eX9_keepsAt_57 : am_d cX9_keepsAt 57 (.iload_n 2) 1 58 := ⟨by decide +kernel, rfl⟩
theorem eX9_keepsAt_58 : am_d cX9_keepsAt 58 (.iadd) 1 59 := ⟨by decide +kernel, rfl⟩
theorem eX9_keepsAt_59 : am_d cX9_keepsAt 59 (.iload_n 3) 1 60 := ⟨by decide +kernel, rfl⟩
theorem eX9_keepsAt_60 : am_d cX9_keepsAt 60 (.iastore) 1 61 := ⟨by decide +kernel, rfl⟩
theorem eX9_keepsAt_61 : am_d cX9_keepsAt 61 (.aload_n 0) 1 62 := ⟨by decide +kernel, rfl⟩
theorem eX9_keepsAt_62 : am_d cX9_keepsAt 62 (.getfield 35) 3 65 := ⟨by decide +kernel, rfl⟩
theorem eX9_keepsAt_65 : am_d cX9_keepsAt 65 (.iload_n 1) 1 66 := ⟨by decide +kernel, rfl⟩
theorem eX9_keepsAt_66 : am_d cX9_keepsAt 66 (.dup2) 1 67 := ⟨by decide +kernel, rfl⟩
theorem eX9_keepsAt_67 : am_d cX9_keepsAt 67 (.iaload) 1 68 := ⟨by decide +kernel, rfl⟩
theorem eX9_keepsAt_68 : am_d cX9_keepsAt 68 (.iconst 1) 1 69 := ⟨by decide +kernel, rfl⟩
theorem eX9_keepsAt_69 : am_d cX9_keepsAt 69 (.iadd) 1 70 := ⟨by decide +kernel, rfl⟩
theorem eX9_keepsAt_70 : am_d cX9_keepsAt 70 (.iastore) 1 71 := ⟨by decide +kernel, rfl⟩
theorem eX9_keepsAt_71 : am_d cX9_keepsAt 71 (.return_) 1 72 := ⟨by decide +kernel, rfl⟩
theorem eX9_send_0 : am_d cX9_send 0 (.aload_n 0) 1 1 := ⟨by decide +kernel, rfl⟩
theorem eX9_send_1 : am_d cX9_send 1 (.iload_n 2) 1 2 := ⟨by decide +kernel, rfl⟩
theorem eX9_send_2 : am_d cX9_send 2 (.invokestatic 155) 3 5 := ⟨by decide +kernel, rfl⟩
theorem eX9_send_5 : am_b cX9_send 5 (.ifCond .eq 7) (7) 8 12 := ⟨by decide +kernel, rfl, by decide⟩
theorem eX9_send_8 : am_d cX9_send 8 (.iconst 0) 1 9 := ⟨by decide +kernel, rfl⟩
theorem eX9_send_9 : am_b cX9_send 9 (.goto 4) (4) 12 13 := ⟨by decide +kernel, rfl, by decide⟩
theorem eX9_send_12 : am_d cX9_send 12 (.iconst 1) 1 13 := ⟨by decide +kernel, rfl⟩
theorem eX9_send_13 : am_d cX9_send 13 (.putfield 123) 3 16 := ⟨by decide +kernel, rfl⟩
theorem eX9_send_16 : am_d cX9_send 16 (.aload_n 0) 1 17 := ⟨by decide +kernel, rfl⟩
theorem eX9_send_17 : am_d cX9_send 17 (.getfield 123) 3 20 := ⟨by decide +kernel, rfl⟩
theorem eX9_send_20 : am_b cX9_send 20 (.ifCond .le 5) (5) 23 25 := ⟨by decide +kernel, rfl, by decide⟩
theorem eX9_send_23 : am_d cX9_send 23 (.iconst 0) 1 24 := ⟨by decide +kernel, rfl⟩
theorem eX9_send_24 : am_d cX9_send 24 (.ireturn) 1 25 := ⟨by decide +kernel, rfl⟩
theorem eX9_send_25 : am_d cX9_send 25 (.aload_n 0) 1 26 := ⟨by decide +kernel, rfl⟩
theorem eX9_send_26 : am_d cX9_send 26 (.getfield 126) 3 29 := ⟨by decide +kernel, rfl⟩
theorem eX9_send_29 : am_d cX9_send 29 (.iconst 2) 1 30 := ⟨by decide +kernel, rfl⟩
theorem eX9_send_30 : am_b cX9_send 30 (.if_icmp .lt 10) (10) 33 40 := ⟨by decide +kernel, rfl, by decide⟩
theorem eX9_send_33 : am_d cX9_send 33 (.aload_n 0) 1 34 := ⟨by decide +kernel, rfl⟩
theorem eX9_send_34 : am_d cX9_send 34 (.getfield 161) 3 37 := ⟨by decide +kernel, rfl⟩
theorem eX9_send_37 : am_b cX9_send 37 (.ifCond .ne 7) (7) 40 44 := ⟨by decide +kernel, rfl, by decide⟩
theorem eX9_send_40 : am_d cX9_send 40 (.iconst (-1)) 1 41 := ⟨by decide +kernel, rfl⟩
theorem eX9_send_41 : am_b cX9_send 41 (.goto 9) (9) 44 50 := ⟨by decide +kernel, rfl, by decide⟩
theorem eX9_send_44 : am_d cX9_send 44 (.aload_n 0) 1 45 := ⟨by decide +kernel, rfl⟩
theorem eX9_send_45 : am_d cX9_send 45 (.iload_n 2) 1 46 := ⟨by decide +kernel, rfl⟩
theorem eX9_send_46 : am_d cX9_send 46 (.iload_n 3) 1 47 := ⟨by decide +kernel, rfl⟩
theorem eX9_send_47 : am_d cX9_send 47 (.invokevirtual 167) 3 50 := ⟨by decide +kernel, rfl⟩
theorem eX9_send_50 : am_d cX9_send 50 (.istore 4) 2 52 := ⟨by decide +kernel, rfl⟩
theorem eX9_send_52 : am_d cX9_send 52 (.aload_n 0) 1 53 := ⟨by decide +kernel, rfl⟩
theorem eX9_send_53 : am_d cX9_send 53 (.getfield 126) 3 56 := ⟨by decide +kernel, rfl⟩
theorem eX9_send_56 : am_d cX9_send 56 (.iconst 2) 1 57 := ⟨by decide +kernel, rfl⟩
theorem eX9_send_57 : am_b cX9_send 57 (.if_icmp .ge 7) (7) 60 64 := ⟨by decide +kernel, rfl, by decide⟩
theorem eX9_send_60 : am_d cX9_send 60 (.iconst 0) 1 61 := ⟨by decide +kernel, rfl⟩
theorem eX9_send_61 : am_b cX9_send 61 (.goto 25) (25) 64 86 := ⟨by decide +kernel, rfl, by decide⟩
theorem eX9_send_64 : am_d cX9_send 64 (.iload_n 1) 1 65 := ⟨by decide +kernel, rfl⟩
theorem eX9_send_65 : am_b cX9_send 65 (.ifCond .eq 16) (16) 68 81 := ⟨by decide +kernel, rfl, by decide⟩
theorem eX9_send_68 : am_d cX9_send 68 (.aload_n 0) 1 69 := ⟨by decide +kernel, rfl⟩
theorem eX9_send_69 : am_d cX9_send 69 (.getfield 126) 3 72 := ⟨by decide +kernel, rfl⟩
theorem eX9_send_72 : am_d cX9_send 72 (.iconst 1) 1 73 := ⟨by decide +kernel, rfl⟩
theorem eX9_send_73 : am_d cX9_send 73 (.isub) 1 74 := ⟨by decide +kernel, rfl⟩
theorem eX9_send_74 : am_d cX9_send 74 (.iconst 0) 1 75 := ⟨by decide +kernel, rfl⟩
theorem eX9_send_75 : am_d cX9_send 75 (.invokestatic 171) 3 78 := ⟨by decide +kernel, rfl⟩
theorem eX9_send_78 : am_b cX9_send 78 (.goto 8) (8) 81 86 := ⟨by decide +kernel, rfl, by decide⟩
theorem eX9_send_81 : am_d cX9_send 81 (.iconst 0) 1 82 := ⟨by decide +kernel, rfl⟩
theorem eX9_send_82 : am_d cX9_send 82 (.iconst 1) 1 83 := ⟨by decide +kernel, rfl⟩
theorem eX9_send_83 : am_d cX9_send 83 (.invokestatic 171) 3 86 := ⟨by decide +kernel, rfl⟩
theorem eX9_send_86 : am_d cX9_send 86 (.istore 5) 2 88 := ⟨by decide +kernel, rfl⟩
theorem eX9_send_88 : am_d cX9_send 88 (.aload_n 0) 1 89 := ⟨by decide +kernel, rfl⟩
theorem eX9_send_89 : am_d cX9_send 89 (.iload 4) 2 91 := ⟨by decide +kernel, rfl⟩
theorem eX9_send_91 : am_d cX9_send 91 (.iconst (-1)) 1 92 := ⟨by decide +kernel, rfl⟩
theorem eX9_send_92 : am_b cX9_send 92 (.if_icmp .eq 19) (19) 95 111 := ⟨by decide +kernel, rfl, by decide⟩
theorem eX9_send_95 : am_d cX9_send 95 (.aload_n 0) 1 96 := ⟨by decide +kernel, rfl⟩
theorem eX9_send_96 : am_d cX9_send 96 (.getfield 35) 3 99 := ⟨by decide +kernel, rfl⟩
theorem eX9_send_99 : am_d cX9_send 99 (.iload 5) 2 101 := ⟨by decide +kernel, rfl⟩
theorem eX9_send_101 : am_d cX9_send 101 (.iaload) 1 102 := ⟨by decide +kernel, rfl⟩
theorem eX9_send_102 : am_d cX9_send 102 (.iload 4) 2 104 := ⟨by decide +kernel, rfl⟩
theorem eX9_send_104 : am_d cX9_send 104 (.iadd) 1 105 := ⟨by decide +kernel, rfl⟩
theorem eX9_send_105 : am_d cX9_send 105 (.sipush 200) 3 108 := ⟨by decide +kernel, rfl⟩
theorem eX9_send_108 : am_b cX9_send 108 (.if_icmp .le 7) (7) 111 115 := ⟨by decide +kernel, rfl, by decide⟩
theorem eX9_send_111 : am_d cX9_send 111 (.iconst 2) 1 112 := ⟨by decide +kernel, rfl⟩
theorem eX9_send_112 : am_b cX9_send 112 (.goto 4) (4) 115 116 := ⟨by decide +kernel, rfl, by decide⟩
theorem eX9_send_115 : am_d cX9_send 115 (.iconst 0) 1 116 := ⟨by decide +kernel, rfl⟩
theorem eX9_send_116 : am_d cX9_send 116 (.putfield 123) 3 119 := ⟨by decide +kernel, rfl⟩
theorem eX9_send_119 : am_d cX9_send 119 (.aload_n 0) 1 120 := ⟨by decide +kernel, rfl⟩
theorem eX9_send_120 : am_d cX9_send 120 (.getfield 123) 3 123 := ⟨by decide +kernel, rfl⟩
theorem eX9_send_123 : am_b cX9_send 123 (.ifCond .le 5) (5) 126 128 := ⟨by decide +kernel, rfl, by decide⟩
theorem eX9_send_126 : am_d cX9_send 126 (.iconst 0) 1 127 := ⟨by decide +kernel, rfl⟩
theorem eX9_send_127 : am_d cX9_send 127 (.ireturn) 1 128 := ⟨by decide +kernel, rfl⟩
theorem eX9_send_128 : am_d cX9_send 128 (.aload_n 0) 1 129 := ⟨by decide +kernel, rfl⟩
theorem eX9_send_129 : am_d cX9_send 129 (.iconst 1) 1 130 := ⟨by decide +kernel, rfl⟩
theorem eX9_send_130 : am_d cX9_send 130 (.putfield 133) 3 133 := ⟨by decide +kernel, rfl⟩
theorem eX9_send_133 : am_d cX9_send 133 (.iload_n 3) 1 134 := ⟨by decide +kernel, rfl⟩
theorem eX9_send_134 : am_b cX9_send 134 (.ifCond .eq 13) (13) 137 147 := ⟨by decide +kernel, rfl, by decide⟩
theorem eX9_send_137 : am_d cX9_send 137 (.aload_n 0) 1 138 := ⟨by decide +kernel, rfl⟩
theorem eX9_send_138 : am_d cX9_send 138 (.getfield 38) 3 141 := ⟨by decide +kernel, rfl⟩
theorem eX9_send_141 : am_d cX9_send 141 (.iload 5) 2 143 := ⟨by decide +kernel, rfl⟩
theorem eX9_send_143 : am_d cX9_send 143 (.iaload) 1 144 := ⟨by decide +kernel, rfl⟩
theorem eX9_send_144 : am_b cX9_send 144 (.goto 10) (10) 147 154 := ⟨by decide +kernel, rfl, by decide⟩
theorem eX9_send_147 : am_d cX9_send 147 (.aload_n 0) 1 148 := ⟨by decide +kernel, rfl⟩
theorem eX9_send_148 : am_d cX9_send 148 (.getfield 35) 3 151 := ⟨by decide +kernel, rfl⟩
theorem eX9_send_151 : am_d cX9_send 151 (.iload 5) 2 153 := ⟨by decide +kernel, rfl⟩
theorem eX9_send_153 : am_d cX9_send 153 (.iaload) 1 154 := ⟨by decide +kernel, rfl⟩
theorem eX9_send_154 : am_d cX9_send 154 (.istore 6) 2 156 := ⟨by decide +kernel, rfl⟩
theorem eX9_send_156 : am_d cX9_send 156 (.iconst 0) 1 157 := ⟨by decide +kernel, rfl⟩
theorem eX9_send_157 : am_d cX9_send 157 (.istore 7) 2 159 := ⟨by decide +kernel, rfl⟩
theorem eX9_send_159 : am_d cX9_send 159 (.iload 7) 2 161 := ⟨by decide +kernel, rfl⟩
theorem eX9_send_161 : am_d cX9_send 161 (.iload 4) 2 163 := ⟨by decide +kernel, rfl⟩
theorem eX9_send_163 : am_b cX9_send 163 (.if_icmp .ge 27) (27) 166 190 := ⟨by decide +kernel, rfl, by decide⟩
theorem eX9_send_166 : am_d cX9_send 166 (.aload_n 0) 1 167 := ⟨by decide +kernel, rfl⟩
theorem eX9_send_167 : am_d cX9_send 167 (.iload 5) 2 169 := ⟨by decide +kernel, rfl⟩
theorem eX9_send_169 : am_d cX9_send 169 (.iload 6) 2 171 := ⟨by decide +kernel, rfl⟩
theorem eX9_send_171 : am_d cX9_send 171 (.iload 7) 2 173 := ⟨by decide +kernel, rfl⟩
theorem eX9_send_173 : am_d cX9_send 173 (.iadd) 1 174 := ⟨by decide +kernel, rfl⟩
theorem eX9_send_174 : am_d cX9_send 174 (.aload_n 0) 1 175 := ⟨by decide +kernel, rfl⟩
theorem eX9_send_175 : am_d cX9_send 175 (.getfield 75) 3 178 := ⟨by decide +kernel, rfl⟩
theorem eX9_send_178 : am_d cX9_send 178 (.iload 7) 2 180 := ⟨by decide +kernel, rfl⟩
theorem eX9_send_180 : am_d cX9_send 180 (.iaload) 1 181 := ⟨by decide +kernel, rfl⟩
theorem eX9_send_181 : am_d cX9_send 181 (.invokevirtual 174) 3 184 := ⟨by decide +kernel, rfl⟩
theorem eX9_send_184 : am_d cX9_send 184 (.iinc 7 1) 3 187 := ⟨by decide +kernel, rfl⟩
theorem eX9_send_187 : am_b cX9_send 187 (.goto (-28)) (-28) 190 159 := ⟨by decide +kernel, rfl, by decide⟩
theorem eX9_send_190 : am_d cX9_send 190 (.aload_n 0) 1 191 := ⟨by decide +kernel, rfl⟩
end
section
theorem eX9_send_191 : am_d cX9_send 191 (.getfield 38) 3 194 := ⟨by decide +kernel, rfl⟩
theorem eX9_send_194 : am_d cX9_send 194 (.iload 5) 2 196 := ⟨by decide +kernel, rfl⟩
theorem eX9_send_196 : am_d cX9_send 196 (.dup2) 1 197 := ⟨by decide +kernel, rfl⟩
theorem eX9_send_197 : am_d cX9_send 197 (.iaload) 1 198 := ⟨by decide +kernel, rfl⟩
theorem eX9_send_198 : am_d cX9_send 198 (.iload_n 3) 1 199 := ⟨by decide +kernel, rfl⟩
theorem eX9_send_199 : am_b cX9_send 199 (.ifCond .eq 8) (8) 202 207 := ⟨by decide +kernel, rfl, by decide⟩
theorem eX9_send_202 : am_d cX9_send 202 (.iload 4) 2 204 := ⟨by decide +kernel, rfl⟩
theorem eX9_send_204 : am_b cX9_send 204 (.goto 4) (4) 207 208 := ⟨by decide +kernel, rfl, by decide⟩
theorem eX9_send_207 : am_d cX9_send 207 (.iconst 0) 1 208 := ⟨by decide +kernel, rfl⟩
theorem eX9_send_208 : am_d cX9_send 208 (.iadd) 1 209 := ⟨by decide +kernel, rfl⟩
theorem eX9_send_209 : am_d cX9_send 209 (.iastore) 1 210 := ⟨by decide +kernel, rfl⟩
theorem eX9_send_210 : am_d cX9_send 210 (.aload_n 0) 1 211 := ⟨by decide +kernel, rfl⟩
theorem eX9_send_211 : am_d cX9_send 211 (.getfield 35) 3 214 := ⟨by decide +kernel, rfl⟩
theorem eX9_send_214 : am_d cX9_send 214 (.iload 5) 2 216 := ⟨by decide +kernel, rfl⟩
theorem eX9_send_216 : am_d cX9_send 216 (.iaload) 1 217 := ⟨by decide +kernel, rfl⟩
theorem eX9_send_217 : am_d cX9_send 217 (.ireturn) 1 218 := ⟨by decide +kernel, rfl⟩
theorem eX9_writes_0 : am_d cX9_writes 0 (.aload_n 0) 1 1 := ⟨by decide +kernel, rfl⟩
theorem eX9_writes_1 : am_d cX9_writes 1 (.getfield 51) 3 4 := ⟨by decide +kernel, rfl⟩
theorem eX9_writes_4 : am_d cX9_writes 4 (.iload_n 1) 1 5 := ⟨by decide +kernel, rfl⟩
theorem eX9_writes_5 : am_d cX9_writes 5 (.iaload) 1 6 := ⟨by decide +kernel, rfl⟩
theorem eX9_writes_6 : am_d cX9_writes 6 (.sipush 300) 3 9 := ⟨by decide +kernel, rfl⟩
theorem eX9_writes_9 : am_b cX9_writes 9 (.if_icmp .ge 54) (54) 12 63 := ⟨by decide +kernel, rfl, by decide⟩
theorem eX9_writes_12 : am_d cX9_writes 12 (.sipush 300) 3 15 := ⟨by decide +kernel, rfl⟩
theorem eX9_writes_15 : am_d cX9_writes 15 (.iload_n 1) 1 16 := ⟨by decide +kernel, rfl⟩
theorem eX9_writes_16 : am_d cX9_writes 16 (.imul) 1 17 := ⟨by decide +kernel, rfl⟩
theorem eX9_writes_17 : am_d cX9_writes 17 (.aload_n 0) 1 18 := ⟨by decide +kernel, rfl⟩
theorem eX9_writes_18 : am_d cX9_writes 18 (.getfield 51) 3 21 := ⟨by decide +kernel, rfl⟩
theorem eX9_writes_21 : am_d cX9_writes 21 (.iload_n 1) 1 22 := ⟨by decide +kernel, rfl⟩
theorem eX9_writes_22 : am_d cX9_writes 22 (.iaload) 1 23 := ⟨by decide +kernel, rfl⟩
theorem eX9_writes_23 : am_d cX9_writes 23 (.iadd) 1 24 := ⟨by decide +kernel, rfl⟩
theorem eX9_writes_24 : am_d cX9_writes 24 (.istore 4) 2 26 := ⟨by decide +kernel, rfl⟩
theorem eX9_writes_26 : am_d cX9_writes 26 (.aload_n 0) 1 27 := ⟨by decide +kernel, rfl⟩
theorem eX9_writes_27 : am_d cX9_writes 27 (.getfield 54) 3 30 := ⟨by decide +kernel, rfl⟩
theorem eX9_writes_30 : am_d cX9_writes 30 (.iload 4) 2 32 := ⟨by decide +kernel, rfl⟩
theorem eX9_writes_32 : am_d cX9_writes 32 (.aload_n 0) 1 33 := ⟨by decide +kernel, rfl⟩
theorem eX9_writes_33 : am_d cX9_writes 33 (.getfield 7) 3 36 := ⟨by decide +kernel, rfl⟩
theorem eX9_writes_36 : am_d cX9_writes 36 (.iastore) 1 37 := ⟨by decide +kernel, rfl⟩
theorem eX9_writes_37 : am_d cX9_writes 37 (.aload_n 0) 1 38 := ⟨by decide +kernel, rfl⟩
theorem eX9_writes_38 : am_d cX9_writes 38 (.getfield 57) 3 41 := ⟨by decide +kernel, rfl⟩
theorem eX9_writes_41 : am_d cX9_writes 41 (.iload 4) 2 43 := ⟨by decide +kernel, rfl⟩
theorem eX9_writes_43 : am_d cX9_writes 43 (.iload_n 2) 1 44 := ⟨by decide +kernel, rfl⟩
theorem eX9_writes_44 : am_d cX9_writes 44 (.iastore) 1 45 := ⟨by decide +kernel, rfl⟩
theorem eX9_writes_45 : am_d cX9_writes 45 (.aload_n 0) 1 46 := ⟨by decide +kernel, rfl⟩
theorem eX9_writes_46 : am_d cX9_writes 46 (.getfield 60) 3 49 := ⟨by decide +kernel, rfl⟩
theorem eX9_writes_49 : am_d cX9_writes 49 (.iload 4) 2 51 := ⟨by decide +kernel, rfl⟩
theorem eX9_writes_51 : am_d cX9_writes 51 (.iload_n 3) 1 52 := ⟨by decide +kernel, rfl⟩
theorem eX9_writes_52 : am_d cX9_writes 52 (.bastore) 1 53 := ⟨by decide +kernel, rfl⟩
theorem eX9_writes_53 : am_d cX9_writes 53 (.aload_n 0) 1 54 := ⟨by decide +kernel, rfl⟩
theorem eX9_writes_54 : am_d cX9_writes 54 (.getfield 51) 3 57 := ⟨by decide +kernel, rfl⟩
theorem eX9_writes_57 : am_d cX9_writes 57 (.iload_n 1) 1 58 := ⟨by decide +kernel, rfl⟩
theorem eX9_writes_58 : am_d cX9_writes 58 (.dup2) 1 59 := ⟨by decide +kernel, rfl⟩
theorem eX9_writes_59 : am_d cX9_writes 59 (.iaload) 1 60 := ⟨by decide +kernel, rfl⟩
theorem eX9_writes_60 : am_d cX9_writes 60 (.iconst 1) 1 61 := ⟨by decide +kernel, rfl⟩
theorem eX9_writes_61 : am_d cX9_writes 61 (.iadd) 1 62 := ⟨by decide +kernel, rfl⟩
theorem eX9_writes_62 : am_d cX9_writes 62 (.iastore) 1 63 := ⟨by decide +kernel, rfl⟩
theorem eX9_writes_63 : am_d cX9_writes 63 (.return_) 1 64 := ⟨by decide +kernel, rfl⟩
theorem eX9_mark_0 : am_d cX9_mark 0 (.aload_n 0) 1 1 := ⟨by decide +kernel, rfl⟩
theorem eX9_mark_1 : am_d cX9_mark 1 (.aload_n 0) 1 2 := ⟨by decide +kernel, rfl⟩
theorem eX9_mark_2 : am_d cX9_mark 2 (.iload_n 1) 1 3 := ⟨by decide +kernel, rfl⟩
theorem eX9_mark_3 : am_d cX9_mark 3 (.invokevirtual 141) 3 6 := ⟨by decide +kernel, rfl⟩
theorem eX9_mark_6 : am_b cX9_mark 6 (.ifCond .eq 7) (7) 9 13 := ⟨by decide +kernel, rfl, by decide⟩
theorem eX9_mark_9 : am_d cX9_mark 9 (.iconst 0) 1 10 := ⟨by decide +kernel, rfl⟩
theorem eX9_mark_10 : am_b cX9_mark 10 (.goto 4) (4) 13 14 := ⟨by decide +kernel, rfl, by decide⟩
theorem eX9_mark_13 : am_d cX9_mark 13 (.iconst 1) 1 14 := ⟨by decide +kernel, rfl⟩
theorem eX9_mark_14 : am_d cX9_mark 14 (.putfield 123) 3 17 := ⟨by decide +kernel, rfl⟩
theorem eX9_mark_17 : am_d cX9_mark 17 (.aload_n 0) 1 18 := ⟨by decide +kernel, rfl⟩
theorem eX9_mark_18 : am_d cX9_mark 18 (.getfield 123) 3 21 := ⟨by decide +kernel, rfl⟩
theorem eX9_mark_21 : am_b cX9_mark 21 (.ifCond .le 5) (5) 24 26 := ⟨by decide +kernel, rfl, by decide⟩
theorem eX9_mark_24 : am_d cX9_mark 24 (.iconst 0) 1 25 := ⟨by decide +kernel, rfl⟩
theorem eX9_mark_25 : am_d cX9_mark 25 (.ireturn) 1 26 := ⟨by decide +kernel, rfl⟩
theorem eX9_mark_26 : am_d cX9_mark 26 (.iload_n 1) 1 27 := ⟨by decide +kernel, rfl⟩
theorem eX9_mark_27 : am_d cX9_mark 27 (.iload_n 2) 1 28 := ⟨by decide +kernel, rfl⟩
theorem eX9_mark_28 : am_d cX9_mark 28 (.invokestatic 171) 3 31 := ⟨by decide +kernel, rfl⟩
theorem eX9_mark_31 : am_d cX9_mark 31 (.istore 4) 2 33 := ⟨by decide +kernel, rfl⟩
theorem eX9_mark_33 : am_d cX9_mark 33 (.aload_n 0) 1 34 := ⟨by decide +kernel, rfl⟩
theorem eX9_mark_34 : am_d cX9_mark 34 (.aload_n 0) 1 35 := ⟨by decide +kernel, rfl⟩
theorem eX9_mark_35 : am_d cX9_mark 35 (.iload_n 1) 1 36 := ⟨by decide +kernel, rfl⟩
theorem eX9_mark_36 : am_d cX9_mark 36 (.iload_n 2) 1 37 := ⟨by decide +kernel, rfl⟩
theorem eX9_mark_37 : am_d cX9_mark 37 (.invokevirtual 178) 3 40 := ⟨by decide +kernel, rfl⟩
theorem eX9_mark_40 : am_b cX9_mark 40 (.ifCond .ne 16) (16) 43 56 := ⟨by decide +kernel, rfl, by decide⟩
theorem eX9_mark_43 : am_d cX9_mark 43 (.aload_n 0) 1 44 := ⟨by decide +kernel, rfl⟩
theorem eX9_mark_44 : am_d cX9_mark 44 (.getfield 35) 3 47 := ⟨by decide +kernel, rfl⟩
theorem eX9_mark_47 : am_d cX9_mark 47 (.iload 4) 2 49 := ⟨by decide +kernel, rfl⟩
theorem eX9_mark_49 : am_d cX9_mark 49 (.iaload) 1 50 := ⟨by decide +kernel, rfl⟩
theorem eX9_mark_50 : am_d cX9_mark 50 (.sipush 200) 3 53 := ⟨by decide +kernel, rfl⟩
theorem eX9_mark_53 : am_b cX9_mark 53 (.if_icmp .lt 7) (7) 56 60 := ⟨by decide +kernel, rfl, by decide⟩
theorem eX9_mark_56 : am_d cX9_mark 56 (.iconst 2) 1 57 := ⟨by decide +kernel, rfl⟩
theorem eX9_mark_57 : am_b cX9_mark 57 (.goto 4) (4) 60 61 := ⟨by decide +kernel, rfl, by decide⟩
theorem eX9_mark_60 : am_d cX9_mark 60 (.iconst 0) 1 61 := ⟨by decide +kernel, rfl⟩
theorem eX9_mark_61 : am_d cX9_mark 61 (.putfield 123) 3 64 := ⟨by decide +kernel, rfl⟩
theorem eX9_mark_64 : am_d cX9_mark 64 (.aload_n 0) 1 65 := ⟨by decide +kernel, rfl⟩
theorem eX9_mark_65 : am_d cX9_mark 65 (.getfield 123) 3 68 := ⟨by decide +kernel, rfl⟩
theorem eX9_mark_68 : am_b cX9_mark 68 (.ifCond .le 5) (5) 71 73 := ⟨by decide +kernel, rfl, by decide⟩
theorem eX9_mark_71 : am_d cX9_mark 71 (.iconst 0) 1 72 := ⟨by decide +kernel, rfl⟩
theorem eX9_mark_72 : am_d cX9_mark 72 (.ireturn) 1 73 := ⟨by decide +kernel, rfl⟩
theorem eX9_mark_73 : am_d cX9_mark 73 (.aload_n 0) 1 74 := ⟨by decide +kernel, rfl⟩
theorem eX9_mark_74 : am_d cX9_mark 74 (.iconst 1) 1 75 := ⟨by decide +kernel, rfl⟩
theorem eX9_mark_75 : am_d cX9_mark 75 (.putfield 133) 3 78 := ⟨by decide +kernel, rfl⟩
theorem eX9_mark_78 : am_d cX9_mark 78 (.iload_n 3) 1 79 := ⟨by decide +kernel, rfl⟩
theorem eX9_mark_79 : am_b cX9_mark 79 (.ifCond .eq 8) (8) 82 87 := ⟨by decide +kernel, rfl, by decide⟩
theorem eX9_mark_82 : am_d cX9_mark 82 (.bipush 94) 2 84 := ⟨by decide +kernel, rfl⟩
theorem eX9_mark_84 : am_b cX9_mark 84 (.goto 5) (5) 87 89 := ⟨by decide +kernel, rfl, by decide⟩
theorem eX9_mark_87 : am_d cX9_mark 87 (.bipush 95) 2 89 := ⟨by decide +kernel, rfl⟩
theorem eX9_mark_89 : am_d cX9_mark 89 (.istore 5) 2 91 := ⟨by decide +kernel, rfl⟩
theorem eX9_mark_91 : am_d cX9_mark 91 (.aload_n 0) 1 92 := ⟨by decide +kernel, rfl⟩
theorem eX9_mark_92 : am_d cX9_mark 92 (.iload 4) 2 94 := ⟨by decide +kernel, rfl⟩
theorem eX9_mark_94 : am_d cX9_mark 94 (.aload_n 0) 1 95 := ⟨by decide +kernel, rfl⟩
theorem eX9_mark_95 : am_d cX9_mark 95 (.getfield 35) 3 98 := ⟨by decide +kernel, rfl⟩
theorem eX9_mark_98 : am_d cX9_mark 98 (.iload 4) 2 100 := ⟨by decide +kernel, rfl⟩
theorem eX9_mark_100 : am_d cX9_mark 100 (.iaload) 1 101 := ⟨by decide +kernel, rfl⟩
theorem eX9_mark_101 : am_d cX9_mark 101 (.iload 5) 2 103 := ⟨by decide +kernel, rfl⟩
theorem eX9_mark_103 : am_d cX9_mark 103 (.invokevirtual 174) 3 106 := ⟨by decide +kernel, rfl⟩
theorem eX9_mark_106 : am_d cX9_mark 106 (.aload_n 0) 1 107 := ⟨by decide +kernel, rfl⟩
theorem eX9_mark_107 : am_d cX9_mark 107 (.iload 4) 2 109 := ⟨by decide +kernel, rfl⟩
theorem eX9_mark_109 : am_d cX9_mark 109 (.iload 5) 2 111 := ⟨by decide +kernel, rfl⟩
theorem eX9_mark_111 : am_d cX9_mark 111 (.iconst 1) 1 112 := ⟨by decide +kernel, rfl⟩
theorem eX9_mark_112 : am_d cX9_mark 112 (.invokevirtual 182) 3 115 := ⟨by decide +kernel, rfl⟩
theorem eX9_mark_115 : am_d cX9_mark 115 (.aload_n 0) 1 116 := ⟨by decide +kernel, rfl⟩
theorem eX9_mark_116 : am_d cX9_mark 116 (.getfield 35) 3 119 := ⟨by decide +kernel, rfl⟩
theorem eX9_mark_119 : am_d cX9_mark 119 (.iload 4) 2 121 := ⟨by decide +kernel, rfl⟩
theorem eX9_mark_121 : am_d cX9_mark 121 (.iaload) 1 122 := ⟨by decide +kernel, rfl⟩
theorem eX9_mark_122 : am_d cX9_mark 122 (.ireturn) 1 123 := ⟨by decide +kernel, rfl⟩
theorem eX9_spy_0 : am_d cX9_spy 0 (.aload_n 0) 1 1 := ⟨by decide +kernel, rfl⟩
theorem eX9_spy_1 : am_d cX9_spy 1 (.aload_n 0) 1 2 := ⟨by decide +kernel, rfl⟩
theorem eX9_spy_2 : am_d cX9_spy 2 (.iload_n 1) 1 3 := ⟨by decide +kernel, rfl⟩
theorem eX9_spy_3 : am_d cX9_spy 3 (.invokevirtual 141) 3 6 := ⟨by decide +kernel, rfl⟩
theorem eX9_spy_6 : am_b cX9_spy 6 (.ifCond .ne 7) (7) 9 13 := ⟨by decide +kernel, rfl, by decide⟩
theorem eX9_spy_9 : am_d cX9_spy 9 (.iconst 1) 1 10 := ⟨by decide +kernel, rfl⟩
theorem eX9_spy_10 : am_b cX9_spy 10 (.goto 27) (27) 13 37 := ⟨by decide +kernel, rfl, by decide⟩
theorem eX9_spy_13 : am_d cX9_spy 13 (.aload_n 0) 1 14 := ⟨by decide +kernel, rfl⟩
theorem eX9_spy_14 : am_d cX9_spy 14 (.getfield 186) 3 17 := ⟨by decide +kernel, rfl⟩
theorem eX9_spy_17 : am_d cX9_spy 17 (.bipush 6) 2 19 := ⟨by decide +kernel, rfl⟩
theorem eX9_spy_19 : am_b cX9_spy 19 (.if_icmp .eq 13) (13) 22 32 := ⟨by decide +kernel, rfl, by decide⟩
theorem eX9_spy_22 : am_d cX9_spy 22 (.iload_n 1) 1 23 := ⟨by decide +kernel, rfl⟩
theorem eX9_spy_23 : am_d cX9_spy 23 (.aload_n 0) 1 24 := ⟨by decide +kernel, rfl⟩
theorem eX9_spy_24 : am_d cX9_spy 24 (.getfield 126) 3 27 := ⟨by decide +kernel, rfl⟩
theorem eX9_spy_27 : am_d cX9_spy 27 (.iconst 1) 1 28 := ⟨by decide +kernel, rfl⟩
theorem eX9_spy_28 : am_d cX9_spy 28 (.isub) 1 29 := ⟨by decide +kernel, rfl⟩
theorem eX9_spy_29 : am_b cX9_spy 29 (.if_icmp .ne 7) (7) 32 36 := ⟨by decide +kernel, rfl, by decide⟩
theorem eX9_spy_32 : am_d cX9_spy 32 (.iconst 2) 1 33 := ⟨by decide +kernel, rfl⟩
theorem eX9_spy_33 : am_b cX9_spy 33 (.goto 4) (4) 36 37 := ⟨by decide +kernel, rfl, by decide⟩
theorem eX9_spy_36 : am_d cX9_spy 36 (.iconst 0) 1 37 := ⟨by decide +kernel, rfl⟩
theorem eX9_spy_37 : am_d cX9_spy 37 (.putfield 123) 3 40 := ⟨by decide +kernel, rfl⟩
theorem eX9_spy_40 : am_d cX9_spy 40 (.aload_n 0) 1 41 := ⟨by decide +kernel, rfl⟩
theorem eX9_spy_41 : am_d cX9_spy 41 (.getfield 123) 3 44 := ⟨by decide +kernel, rfl⟩
theorem eX9_spy_44 : am_b cX9_spy 44 (.ifCond .le 5) (5) 47 49 := ⟨by decide +kernel, rfl, by decide⟩
theorem eX9_spy_47 : am_d cX9_spy 47 (.iconst 0) 1 48 := ⟨by decide +kernel, rfl⟩
theorem eX9_spy_48 : am_d cX9_spy 48 (.ireturn) 1 49 := ⟨by decide +kernel, rfl⟩
theorem eX9_spy_49 : am_d cX9_spy 49 (.aload_n 0) 1 50 := ⟨by decide +kernel, rfl⟩
theorem eX9_spy_50 : am_d cX9_spy 50 (.getfield 114) 3 53 := ⟨by decide +kernel, rfl⟩
theorem eX9_spy_53 : am_d cX9_spy 53 (.aload_n 0) 1 54 := ⟨by decide +kernel, rfl⟩
theorem eX9_spy_54 : am_d cX9_spy 54 (.getfield 186) 3 57 := ⟨by decide +kernel, rfl⟩
theorem eX9_spy_57 : am_d cX9_spy 57 (.iload_n 1) 1 58 := ⟨by decide +kernel, rfl⟩
theorem eX9_spy_58 : am_d cX9_spy 58 (.iastore) 1 59 := ⟨by decide +kernel, rfl⟩
theorem eX9_spy_59 : am_d cX9_spy 59 (.aload_n 0) 1 60 := ⟨by decide +kernel, rfl⟩
theorem eX9_spy_60 : am_d cX9_spy 60 (.dup) 1 61 := ⟨by decide +kernel, rfl⟩
theorem eX9_spy_61 : am_d cX9_spy 61 (.getfield 186) 3 64 := ⟨by decide +kernel, rfl⟩
theorem eX9_spy_64 : am_d cX9_spy 64 (.iconst 1) 1 65 := ⟨by decide +kernel, rfl⟩
theorem eX9_spy_65 : am_d cX9_spy 65 (.iadd) 1 66 := ⟨by decide +kernel, rfl⟩
theorem eX9_spy_66 : am_d cX9_spy 66 (.putfield 186) 3 69 := ⟨by decide +kernel, rfl⟩
theorem eX9_spy_69 : am_d cX9_spy 69 (.aload_n 0) 1 70 := ⟨by decide +kernel, rfl⟩
theorem eX9_spy_70 : am_d cX9_spy 70 (.getfield 186) 3 73 := ⟨by decide +kernel, rfl⟩
theorem eX9_spy_73 : am_d cX9_spy 73 (.iconst 1) 1 74 := ⟨by decide +kernel, rfl⟩
theorem eX9_spy_74 : am_d cX9_spy 74 (.isub) 1 75 := ⟨by decide +kernel, rfl⟩
theorem eX9_spy_75 : am_d cX9_spy 75 (.ireturn) 1 76 := ⟨by decide +kernel, rfl⟩
theorem eX9_opens_0 : am_d cX9_opens 0 (.aload_n 0) 1 1 := ⟨by decide +kernel, rfl⟩
theorem eX9_opens_1 : am_d cX9_opens 1 (.getfield 81) 3 4 := ⟨by decide +kernel, rfl⟩
theorem eX9_opens_4 : am_d cX9_opens 4 (.iload_n 1) 1 5 := ⟨by decide +kernel, rfl⟩
theorem eX9_opens_5 : am_d cX9_opens 5 (.iaload) 1 6 := ⟨by decide +kernel, rfl⟩
theorem eX9_opens_6 : am_d cX9_opens 6 (.istore_n 3) 1 7 := ⟨by decide +kernel, rfl⟩
theorem eX9_opens_7 : am_d cX9_opens 7 (.iload_n 3) 1 8 := ⟨by decide +kernel, rfl⟩
theorem eX9_opens_8 : am_b cX9_opens 8 (.ifCond .le 23) (23) 11 31 := ⟨by decide +kernel, rfl, by decide⟩
theorem eX9_opens_11 : am_d cX9_opens 11 (.aload_n 0) 1 12 := ⟨by decide +kernel, rfl⟩
theorem eX9_opens_12 : am_d cX9_opens 12 (.getfield 87) 3 15 := ⟨by decide +kernel, rfl⟩
theorem eX9_opens_15 : am_d cX9_opens 15 (.bipush 40) 2 17 := ⟨by decide +kernel, rfl⟩
theorem eX9_opens_17 : am_d cX9_opens 17 (.iload_n 1) 1 18 := ⟨by decide +kernel, rfl⟩
theorem eX9_opens_18 : am_d cX9_opens 18 (.imul) 1 19 := ⟨by decide +kernel, rfl⟩
theorem eX9_opens_19 : am_d cX9_opens 19 (.iload_n 3) 1 20 := ⟨by decide +kernel, rfl⟩
theorem eX9_opens_20 : am_d cX9_opens 20 (.iadd) 1 21 := ⟨by decide +kernel, rfl⟩
theorem eX9_opens_21 : am_d cX9_opens 21 (.iconst 1) 1 22 := ⟨by decide +kernel, rfl⟩
theorem eX9_opens_22 : am_d cX9_opens 22 (.isub) 1 23 := ⟨by decide +kernel, rfl⟩
theorem eX9_opens_23 : am_d cX9_opens 23 (.baload) 1 24 := ⟨by decide +kernel, rfl⟩
theorem eX9_opens_24 : am_b cX9_opens 24 (.ifCond .eq 7) (7) 27 31 := ⟨by decide +kernel, rfl, by decide⟩
theorem eX9_opens_27 : am_d cX9_opens 27 (.iconst 1) 1 28 := ⟨by decide +kernel, rfl⟩
theorem eX9_opens_28 : am_b cX9_opens 28 (.goto 4) (4) 31 32 := ⟨by decide +kernel, rfl, by decide⟩
theorem eX9_opens_31 : am_d cX9_opens 31 (.iconst 0) 1 32 := ⟨by decide +kernel, rfl⟩
theorem eX9_opens_32 : am_d cX9_opens 32 (.istore 4) 2 34 := ⟨by decide +kernel, rfl⟩
theorem eX9_opens_34 : am_d cX9_opens 34 (.iload_n 2) 1 35 := ⟨by decide +kernel, rfl⟩
theorem eX9_opens_35 : am_b cX9_opens 35 (.ifCond .ne 15) (15) 38 50 := ⟨by decide +kernel, rfl, by decide⟩
theorem eX9_opens_38 : am_d cX9_opens 38 (.iload 4) 2 40 := ⟨by decide +kernel, rfl⟩
theorem eX9_opens_40 : am_b cX9_opens 40 (.ifCond .ne 10) (10) 43 50 := ⟨by decide +kernel, rfl, by decide⟩
theorem eX9_opens_43 : am_d cX9_opens 43 (.aload_n 0) 1 44 := ⟨by decide +kernel, rfl⟩
theorem eX9_opens_44 : am_d cX9_opens 44 (.getfield 81) 3 47 := ⟨by decide +kernel, rfl⟩
theorem eX9_opens_47 : am_d cX9_opens 47 (.iload_n 1) 1 48 := ⟨by decide +kernel, rfl⟩
theorem eX9_opens_48 : am_d cX9_opens 48 (.iconst 0) 1 49 := ⟨by decide +kernel, rfl⟩
theorem eX9_opens_49 : am_d cX9_opens 49 (.iastore) 1 50 := ⟨by decide +kernel, rfl⟩
theorem eX9_opens_50 : am_d cX9_opens 50 (.aload_n 0) 1 51 := ⟨by decide +kernel, rfl⟩
theorem eX9_opens_51 : am_d cX9_opens 51 (.getfield 81) 3 54 := ⟨by decide +kernel, rfl⟩
theorem eX9_opens_54 : am_d cX9_opens 54 (.iload_n 1) 1 55 := ⟨by decide +kernel, rfl⟩
theorem eX9_opens_55 : am_d cX9_opens 55 (.iaload) 1 56 := ⟨by decide +kernel, rfl⟩
theorem eX9_opens_56 : am_d cX9_opens 56 (.bipush 40) 2 58 := ⟨by decide +kernel, rfl⟩
theorem eX9_opens_58 : am_b cX9_opens 58 (.if_icmp .ne 13) (13) 61 71 := ⟨by decide +kernel, rfl, by decide⟩
theorem eX9_opens_61 : am_d cX9_opens 61 (.aload_n 0) 1 62 := ⟨by decide +kernel, rfl⟩
theorem eX9_opens_62 : am_d cX9_opens 62 (.getfield 81) 3 65 := ⟨by decide +kernel, rfl⟩
theorem eX9_opens_65 : am_d cX9_opens 65 (.iload_n 1) 1 66 := ⟨by decide +kernel, rfl⟩
theorem eX9_opens_66 : am_d cX9_opens 66 (.dup2) 1 67 := ⟨by decide +kernel, rfl⟩
theorem eX9_opens_67 : am_d cX9_opens 67 (.iaload) 1 68 := ⟨by decide +kernel, rfl⟩
theorem eX9_opens_68 : am_d cX9_opens 68 (.iconst 1) 1 69 := ⟨by decide +kernel, rfl⟩
theorem eX9_opens_69 : am_d cX9_opens 69 (.isub) 1 70 := ⟨by decide +kernel, rfl⟩
theorem eX9_opens_70 : am_d cX9_opens 70 (.iastore) 1 71 := ⟨by decide +kernel, rfl⟩
theorem eX9_opens_71 : am_d cX9_opens 71 (.bipush 40) 2 73 := ⟨by decide +kernel, rfl⟩
theorem eX9_opens_73 : am_d cX9_opens 73 (.iload_n 1) 1 74 := ⟨by decide +kernel, rfl⟩
theorem eX9_opens_74 : am_d cX9_opens 74 (.imul) 1 75 := ⟨by decide +kernel, rfl⟩
theorem eX9_opens_75 : am_d cX9_opens 75 (.aload_n 0) 1 76 := ⟨by decide +kernel, rfl⟩
theorem eX9_opens_76 : am_d cX9_opens 76 (.getfield 81) 3 79 := ⟨by decide +kernel, rfl⟩
theorem eX9_opens_79 : am_d cX9_opens 79 (.iload_n 1) 1 80 := ⟨by decide +kernel, rfl⟩
theorem eX9_opens_80 : am_d cX9_opens 80 (.iaload) 1 81 := ⟨by decide +kernel, rfl⟩
theorem eX9_opens_81 : am_d cX9_opens 81 (.iadd) 1 82 := ⟨by decide +kernel, rfl⟩
theorem eX9_opens_82 : am_d cX9_opens 82 (.istore 5) 2 84 := ⟨by decide +kernel, rfl⟩
theorem eX9_opens_84 : am_d cX9_opens 84 (.aload_n 0) 1 85 := ⟨by decide +kernel, rfl⟩
theorem eX9_opens_85 : am_d cX9_opens 85 (.getfield 84) 3 88 := ⟨by decide +kernel, rfl⟩
theorem eX9_opens_88 : am_d cX9_opens 88 (.iload 5) 2 90 := ⟨by decide +kernel, rfl⟩
theorem eX9_opens_90 : am_d cX9_opens 90 (.aload_n 0) 1 91 := ⟨by decide +kernel, rfl⟩
theorem eX9_opens_91 : am_d cX9_opens 91 (.getfield 7) 3 94 := ⟨by decide +kernel, rfl⟩
theorem eX9_opens_94 : am_d cX9_opens 94 (.iastore) 1 95 := ⟨by decide +kernel, rfl⟩
theorem eX9_opens_95 : am_d cX9_opens 95 (.aload_n 0) 1 96 := ⟨by decide +kernel, rfl⟩
theorem eX9_opens_96 : am_d cX9_opens 96 (.getfield 87) 3 99 := ⟨by decide +kernel, rfl⟩
theorem eX9_opens_99 : am_d cX9_opens 99 (.iload 5) 2 101 := ⟨by decide +kernel, rfl⟩
theorem eX9_opens_101 : am_d cX9_opens 101 (.iload_n 2) 1 102 := ⟨by decide +kernel, rfl⟩
theorem eX9_opens_102 : am_d cX9_opens 102 (.bastore) 1 103 := ⟨by decide +kernel, rfl⟩
theorem eX9_opens_103 : am_d cX9_opens 103 (.aload_n 0) 1 104 := ⟨by decide +kernel, rfl⟩
theorem eX9_opens_104 : am_d cX9_opens 104 (.getfield 90) 3 107 := ⟨by decide +kernel, rfl⟩
theorem eX9_opens_107 : am_d cX9_opens 107 (.iload 5) 2 109 := ⟨by decide +kernel, rfl⟩
theorem eX9_opens_109 : am_d cX9_opens 109 (.iconst 0) 1 110 := ⟨by decide +kernel, rfl⟩
theorem eX9_opens_110 : am_d cX9_opens 110 (.iastore) 1 111 := ⟨by decide +kernel, rfl⟩
theorem eX9_opens_111 : am_d cX9_opens 111 (.aload_n 0) 1 112 := ⟨by decide +kernel, rfl⟩
theorem eX9_opens_112 : am_d cX9_opens 112 (.getfield 81) 3 115 := ⟨by decide +kernel, rfl⟩
theorem eX9_opens_115 : am_d cX9_opens 115 (.iload_n 1) 1 116 := ⟨by decide +kernel, rfl⟩
theorem eX9_opens_116 : am_d cX9_opens 116 (.dup2) 1 117 := ⟨by decide +kernel, rfl⟩
theorem eX9_opens_117 : am_d cX9_opens 117 (.iaload) 1 118 := ⟨by decide +kernel, rfl⟩
theorem eX9_opens_118 : am_d cX9_opens 118 (.iconst 1) 1 119 := ⟨by decide +kernel, rfl⟩
theorem eX9_opens_119 : am_d cX9_opens 119 (.iadd) 1 120 := ⟨by decide +kernel, rfl⟩
theorem eX9_opens_120 : am_d cX9_opens 120 (.iastore) 1 121 := ⟨by decide +kernel, rfl⟩
theorem eX9_opens_121 : am_d cX9_opens 121 (.return_) 1 122 := ⟨by decide +kernel, rfl⟩
theorem eX9_ends_0 : am_d cX9_ends 0 (.aload_n 0) 1 1 := ⟨by decide +kernel, rfl⟩
theorem eX9_ends_1 : am_d cX9_ends 1 (.getfield 81) 3 4 := ⟨by decide +kernel, rfl⟩
theorem eX9_ends_4 : am_d cX9_ends 4 (.iload_n 1) 1 5 := ⟨by decide +kernel, rfl⟩
theorem eX9_ends_5 : am_d cX9_ends 5 (.dup2) 1 6 := ⟨by decide +kernel, rfl⟩
theorem eX9_ends_6 : am_d cX9_ends 6 (.iaload) 1 7 := ⟨by decide +kernel, rfl⟩
theorem eX9_ends_7 : am_d cX9_ends 7 (.iconst 1) 1 8 := ⟨by decide +kernel, rfl⟩
theorem eX9_ends_8 : am_d cX9_ends 8 (.isub) 1 9 := ⟨by decide +kernel, rfl⟩
theorem eX9_ends_9 : am_d cX9_ends 9 (.iastore) 1 10 := ⟨by decide +kernel, rfl⟩
theorem eX9_ends_10 : am_d cX9_ends 10 (.bipush 40) 2 12 := ⟨by decide +kernel, rfl⟩
theorem eX9_ends_12 : am_d cX9_ends 12 (.iload_n 1) 1 13 := ⟨by decide +kernel, rfl⟩
theorem eX9_ends_13 : am_d cX9_ends 13 (.imul) 1 14 := ⟨by decide +kernel, rfl⟩
theorem eX9_ends_14 : am_d cX9_ends 14 (.aload_n 0) 1 15 := ⟨by decide +kernel, rfl⟩
theorem eX9_ends_15 : am_d cX9_ends 15 (.getfield 81) 3 18 := ⟨by decide +kernel, rfl⟩
theorem eX9_ends_18 : am_d cX9_ends 18 (.iload_n 1) 1 19 := ⟨by decide +kernel, rfl⟩
theorem eX9_ends_19 : am_d cX9_ends 19 (.iaload) 1 20 := ⟨by decide +kernel, rfl⟩
theorem eX9_ends_20 : am_d cX9_ends 20 (.iadd) 1 21 := ⟨by decide +kernel, rfl⟩
theorem eX9_ends_21 : am_d cX9_ends 21 (.istore_n 2) 1 22 := ⟨by decide +kernel, rfl⟩
theorem eX9_ends_22 : am_d cX9_ends 22 (.aload_n 0) 1 23 := ⟨by decide +kernel, rfl⟩
theorem eX9_ends_23 : am_d cX9_ends 23 (.getfield 96) 3 26 := ⟨by decide +kernel, rfl⟩
theorem eX9_ends_26 : am_d cX9_ends 26 (.iload_n 1) 1 27 := ⟨by decide +kernel, rfl⟩
theorem eX9_ends_27 : am_d cX9_ends 27 (.iaload) 1 28 := ⟨by decide +kernel, rfl⟩
theorem eX9_ends_28 : am_d cX9_ends 28 (.bipush 40) 2 30 := ⟨by decide +kernel, rfl⟩
theorem eX9_ends_30 : am_b cX9_ends 30 (.if_icmp .ge 115) (115) 33 145 := ⟨by decide +kernel, rfl, by decide⟩
theorem eX9_ends_33 : am_d cX9_ends 33 (.bipush 40) 2 35 := ⟨by decide +kernel, rfl⟩
theorem eX9_ends_35 : am_d cX9_ends 35 (.iload_n 1) 1 36 := ⟨by decide +kernel, rfl⟩
theorem eX9_ends_36 : am_d cX9_ends 36 (.imul) 1 37 := ⟨by decide +kernel, rfl⟩
theorem eX9_ends_37 : am_d cX9_ends 37 (.aload_n 0) 1 38 := ⟨by decide +kernel, rfl⟩
theorem eX9_ends_38 : am_d cX9_ends 38 (.getfield 96) 3 41 := ⟨by decide +kernel, rfl⟩
theorem eX9_ends_41 : am_d cX9_ends 41 (.iload_n 1) 1 42 := ⟨by decide +kernel, rfl⟩
theorem eX9_ends_42 : am_d cX9_ends 42 (.iaload) 1 43 := ⟨by decide +kernel, rfl⟩
theorem eX9_ends_43 : am_d cX9_ends 43 (.iadd) 1 44 := ⟨by decide +kernel, rfl⟩
theorem eX9_ends_44 : am_d cX9_ends 44 (.istore_n 3) 1 45 := ⟨by decide +kernel, rfl⟩
theorem eX9_ends_45 : am_d cX9_ends 45 (.aload_n 0) 1 46 := ⟨by decide +kernel, rfl⟩
theorem eX9_ends_46 : am_d cX9_ends 46 (.getfield 99) 3 49 := ⟨by decide +kernel, rfl⟩
theorem eX9_ends_49 : am_d cX9_ends 49 (.iload_n 3) 1 50 := ⟨by decide +kernel, rfl⟩
theorem eX9_ends_50 : am_d cX9_ends 50 (.aload_n 0) 1 51 := ⟨by decide +kernel, rfl⟩
theorem eX9_ends_51 : am_d cX9_ends 51 (.getfield 84) 3 54 := ⟨by decide +kernel, rfl⟩
theorem eX9_ends_54 : am_d cX9_ends 54 (.iload_n 2) 1 55 := ⟨by decide +kernel, rfl⟩
theorem eX9_ends_55 : am_d cX9_ends 55 (.iaload) 1 56 := ⟨by decide +kernel, rfl⟩
theorem eX9_ends_56 : am_d cX9_ends 56 (.iastore) 1 57 := ⟨by decide +kernel, rfl⟩
theorem eX9_ends_57 : am_d cX9_ends 57 (.aload_n 0) 1 58 := ⟨by decide +kernel, rfl⟩
theorem eX9_ends_58 : am_d cX9_ends 58 (.getfield 102) 3 61 := ⟨by decide +kernel, rfl⟩
theorem eX9_ends_61 : am_d cX9_ends 61 (.iload_n 3) 1 62 := ⟨by decide +kernel, rfl⟩
theorem eX9_ends_62 : am_d cX9_ends 62 (.aload_n 0) 1 63 := ⟨by decide +kernel, rfl⟩
theorem eX9_ends_63 : am_d cX9_ends 63 (.getfield 7) 3 66 := ⟨by decide +kernel, rfl⟩
theorem eX9_ends_66 : am_d cX9_ends 66 (.iastore) 1 67 := ⟨by decide +kernel, rfl⟩
theorem eX9_ends_67 : am_d cX9_ends 67 (.aload_n 0) 1 68 := ⟨by decide +kernel, rfl⟩
theorem eX9_ends_68 : am_d cX9_ends 68 (.getfield 105) 3 71 := ⟨by decide +kernel, rfl⟩
theorem eX9_ends_71 : am_d cX9_ends 71 (.iload_n 3) 1 72 := ⟨by decide +kernel, rfl⟩
theorem eX9_ends_72 : am_d cX9_ends 72 (.aload_n 0) 1 73 := ⟨by decide +kernel, rfl⟩
theorem eX9_ends_73 : am_d cX9_ends 73 (.getfield 87) 3 76 := ⟨by decide +kernel, rfl⟩
theorem eX9_ends_76 : am_d cX9_ends 76 (.iload_n 2) 1 77 := ⟨by decide +kernel, rfl⟩
theorem eX9_ends_77 : am_d cX9_ends 77 (.baload) 1 78 := ⟨by decide +kernel, rfl⟩
theorem eX9_ends_78 : am_d cX9_ends 78 (.bastore) 1 79 := ⟨by decide +kernel, rfl⟩
theorem eX9_ends_79 : am_d cX9_ends 79 (.aload_n 0) 1 80 := ⟨by decide +kernel, rfl⟩
theorem eX9_ends_80 : am_d cX9_ends 80 (.getfield 108) 3 83 := ⟨by decide +kernel, rfl⟩
theorem eX9_ends_83 : am_d cX9_ends 83 (.iload_n 3) 1 84 := ⟨by decide +kernel, rfl⟩
theorem eX9_ends_84 : am_d cX9_ends 84 (.aload_n 0) 1 85 := ⟨by decide +kernel, rfl⟩
theorem eX9_ends_85 : am_d cX9_ends 85 (.getfield 90) 3 88 := ⟨by decide +kernel, rfl⟩
theorem eX9_ends_88 : am_d cX9_ends 88 (.iload_n 2) 1 89 := ⟨by decide +kernel, rfl⟩
theorem eX9_ends_89 : am_d cX9_ends 89 (.iaload) 1 90 := ⟨by decide +kernel, rfl⟩
theorem eX9_ends_90 : am_d cX9_ends 90 (.iastore) 1 91 := ⟨by decide +kernel, rfl⟩
theorem eX9_ends_91 : am_d cX9_ends 91 (.iconst 0) 1 92 := ⟨by decide +kernel, rfl⟩
theorem eX9_ends_92 : am_d cX9_ends 92 (.istore 4) 2 94 := ⟨by decide +kernel, rfl⟩
theorem eX9_ends_94 : am_d cX9_ends 94 (.iload 4) 2 96 := ⟨by decide +kernel, rfl⟩
theorem eX9_ends_96 : am_d cX9_ends 96 (.aload_n 0) 1 97 := ⟨by decide +kernel, rfl⟩
theorem eX9_ends_97 : am_d cX9_ends 97 (.getfield 90) 3 100 := ⟨by decide +kernel, rfl⟩
theorem eX9_ends_100 : am_d cX9_ends 100 (.iload_n 2) 1 101 := ⟨by decide +kernel, rfl⟩
theorem eX9_ends_101 : am_d cX9_ends 101 (.iaload) 1 102 := ⟨by decide +kernel, rfl⟩
theorem eX9_ends_102 : am_b cX9_ends 102 (.if_icmp .ge 33) (33) 105 135 := ⟨by decide +kernel, rfl, by decide⟩
theorem eX9_ends_105 : am_d cX9_ends 105 (.aload_n 0) 1 106 := ⟨by decide +kernel, rfl⟩
theorem eX9_ends_106 : am_d cX9_ends 106 (.getfield 111) 3 109 := ⟨by decide +kernel, rfl⟩
theorem eX9_ends_109 : am_d cX9_ends 109 (.bipush 60) 2 111 := ⟨by decide +kernel, rfl⟩
theorem eX9_ends_111 : am_d cX9_ends 111 (.iload_n 3) 1 112 := ⟨by decide +kernel, rfl⟩
theorem eX9_ends_112 : am_d cX9_ends 112 (.imul) 1 113 := ⟨by decide +kernel, rfl⟩
theorem eX9_ends_113 : am_d cX9_ends 113 (.iload 4) 2 115 := ⟨by decide +kernel, rfl⟩
theorem eX9_ends_115 : am_d cX9_ends 115 (.iadd) 1 116 := ⟨by decide +kernel, rfl⟩
theorem eX9_ends_116 : am_d cX9_ends 116 (.aload_n 0) 1 117 := ⟨by decide +kernel, rfl⟩
theorem eX9_ends_117 : am_d cX9_ends 117 (.getfield 93) 3 120 := ⟨by decide +kernel, rfl⟩
theorem eX9_ends_120 : am_d cX9_ends 120 (.bipush 60) 2 122 := ⟨by decide +kernel, rfl⟩
theorem eX9_ends_122 : am_d cX9_ends 122 (.iload_n 2) 1 123 := ⟨by decide +kernel, rfl⟩
theorem eX9_ends_123 : am_d cX9_ends 123 (.imul) 1 124 := ⟨by decide +kernel, rfl⟩
theorem eX9_ends_124 : am_d cX9_ends 124 (.iload 4) 2 126 := ⟨by decide +kernel, rfl⟩
theorem eX9_ends_126 : am_d cX9_ends 126 (.iadd) 1 127 := ⟨by decide +kernel, rfl⟩
theorem eX9_ends_127 : am_d cX9_ends 127 (.iaload) 1 128 := ⟨by decide +kernel, rfl⟩
theorem eX9_ends_128 : am_d cX9_ends 128 (.iastore) 1 129 := ⟨by decide +kernel, rfl⟩
theorem eX9_ends_129 : am_d cX9_ends 129 (.iinc 4 1) 3 132 := ⟨by decide +kernel, rfl⟩
theorem eX9_ends_132 : am_b cX9_ends 132 (.goto (-38)) (-38) 135 94 := ⟨by decide +kernel, rfl, by decide⟩
theorem eX9_ends_135 : am_d cX9_ends 135 (.aload_n 0) 1 136 := ⟨by decide +kernel, rfl⟩
theorem eX9_ends_136 : am_d cX9_ends 136 (.getfield 96) 3 139 := ⟨by decide +kernel, rfl⟩
theorem eX9_ends_139 : am_d cX9_ends 139 (.iload_n 1) 1 140 := ⟨by decide +kernel, rfl⟩
theorem eX9_ends_140 : am_d cX9_ends 140 (.dup2) 1 141 := ⟨by decide +kernel, rfl⟩
theorem eX9_ends_141 : am_d cX9_ends 141 (.iaload) 1 142 := ⟨by decide +kernel, rfl⟩
theorem eX9_ends_142 : am_d cX9_ends 142 (.iconst 1) 1 143 := ⟨by decide +kernel, rfl⟩
theorem eX9_ends_143 : am_d cX9_ends 143 (.iadd) 1 144 := ⟨by decide +kernel, rfl⟩
theorem eX9_ends_144 : am_d cX9_ends 144 (.iastore) 1 145 := ⟨by decide +kernel, rfl⟩
theorem eX9_ends_145 : am_d cX9_ends 145 (.return_) 1 146 := ⟨by decide +kernel, rfl⟩
theorem eX9_tapes_0 : am_d cX9_tapes 0 (.aload_n 0) 1 1 := ⟨by decide +kernel, rfl⟩
theorem eX9_tapes_1 : am_d cX9_tapes 1 (.getfield 78) 3 4 := ⟨by decide +kernel, rfl⟩
theorem eX9_tapes_4 : am_d cX9_tapes 4 (.iload_n 1) 1 5 := ⟨by decide +kernel, rfl⟩
theorem eX9_tapes_5 : am_d cX9_tapes 5 (.baload) 1 6 := ⟨by decide +kernel, rfl⟩
theorem eX9_tapes_6 : am_d cX9_tapes 6 (.istore_n 3) 1 7 := ⟨by decide +kernel, rfl⟩
theorem eX9_tapes_7 : am_d cX9_tapes 7 (.aload_n 0) 1 8 := ⟨by decide +kernel, rfl⟩
theorem eX9_tapes_8 : am_d cX9_tapes 8 (.getfield 78) 3 11 := ⟨by decide +kernel, rfl⟩
theorem eX9_tapes_11 : am_d cX9_tapes 11 (.iload_n 1) 1 12 := ⟨by decide +kernel, rfl⟩
theorem eX9_tapes_12 : am_d cX9_tapes 12 (.iload_n 2) 1 13 := ⟨by decide +kernel, rfl⟩
theorem eX9_tapes_13 : am_d cX9_tapes 13 (.bipush 96) 2 15 := ⟨by decide +kernel, rfl⟩
theorem eX9_tapes_15 : am_b cX9_tapes 15 (.if_icmp .ne 7) (7) 18 22 := ⟨by decide +kernel, rfl, by decide⟩
theorem eX9_tapes_18 : am_d cX9_tapes 18 (.iconst 1) 1 19 := ⟨by decide +kernel, rfl⟩
theorem eX9_tapes_19 : am_b cX9_tapes 19 (.goto 4) (4) 22 23 := ⟨by decide +kernel, rfl, by decide⟩
theorem eX9_tapes_22 : am_d cX9_tapes 22 (.iconst 0) 1 23 := ⟨by decide +kernel, rfl⟩
theorem eX9_tapes_23 : am_d cX9_tapes 23 (.bastore) 1 24 := ⟨by decide +kernel, rfl⟩
theorem eX9_tapes_24 : am_d cX9_tapes 24 (.iload_n 2) 1 25 := ⟨by decide +kernel, rfl⟩
theorem eX9_tapes_25 : am_d cX9_tapes 25 (.bipush 92) 2 27 := ⟨by decide +kernel, rfl⟩
theorem eX9_tapes_27 : am_b cX9_tapes 27 (.if_icmp .ne 12) (12) 30 39 := ⟨by decide +kernel, rfl, by decide⟩
theorem eX9_tapes_30 : am_d cX9_tapes 30 (.aload_n 0) 1 31 := ⟨by decide +kernel, rfl⟩
theorem eX9_tapes_31 : am_d cX9_tapes 31 (.iload_n 1) 1 32 := ⟨by decide +kernel, rfl⟩
theorem eX9_tapes_32 : am_d cX9_tapes 32 (.iload_n 3) 1 33 := ⟨by decide +kernel, rfl⟩
theorem eX9_tapes_33 : am_d cX9_tapes 33 (.invokevirtual 189) 3 36 := ⟨by decide +kernel, rfl⟩
theorem eX9_tapes_36 : am_b cX9_tapes 36 (.goto 114) (114) 39 150 := ⟨by decide +kernel, rfl, by decide⟩
theorem eX9_tapes_39 : am_d cX9_tapes 39 (.iload_n 2) 1 40 := ⟨by decide +kernel, rfl⟩
theorem eX9_tapes_40 : am_d cX9_tapes 40 (.bipush 94) 2 42 := ⟨by decide +kernel, rfl⟩
theorem eX9_tapes_42 : am_b cX9_tapes 42 (.if_icmp .ne 13) (13) 45 55 := ⟨by decide +kernel, rfl, by decide⟩
theorem eX9_tapes_45 : am_d cX9_tapes 45 (.aload_n 0) 1 46 := ⟨by decide +kernel, rfl⟩
theorem eX9_tapes_46 : am_d cX9_tapes 46 (.getfield 81) 3 49 := ⟨by decide +kernel, rfl⟩
theorem eX9_tapes_49 : am_d cX9_tapes 49 (.iload_n 1) 1 50 := ⟨by decide +kernel, rfl⟩
theorem eX9_tapes_50 : am_d cX9_tapes 50 (.iconst 0) 1 51 := ⟨by decide +kernel, rfl⟩
theorem eX9_tapes_51 : am_d cX9_tapes 51 (.iastore) 1 52 := ⟨by decide +kernel, rfl⟩
theorem eX9_tapes_52 : am_b cX9_tapes 52 (.goto 98) (98) 55 150 := ⟨by decide +kernel, rfl, by decide⟩
theorem eX9_tapes_55 : am_d cX9_tapes 55 (.aload_n 0) 1 56 := ⟨by decide +kernel, rfl⟩
theorem eX9_tapes_56 : am_d cX9_tapes 56 (.getfield 81) 3 59 := ⟨by decide +kernel, rfl⟩
theorem eX9_tapes_59 : am_d cX9_tapes 59 (.iload_n 1) 1 60 := ⟨by decide +kernel, rfl⟩
theorem eX9_tapes_60 : am_d cX9_tapes 60 (.iaload) 1 61 := ⟨by decide +kernel, rfl⟩
theorem eX9_tapes_61 : am_b cX9_tapes 61 (.ifCond .le 17) (17) 64 78 := ⟨by decide +kernel, rfl, by decide⟩
theorem eX9_tapes_64 : am_d cX9_tapes 64 (.iload_n 2) 1 65 := ⟨by decide +kernel, rfl⟩
theorem eX9_tapes_65 : am_d cX9_tapes 65 (.bipush 93) 2 67 := ⟨by decide +kernel, rfl⟩
theorem eX9_tapes_67 : am_b cX9_tapes 67 (.if_icmp .ne 11) (11) 70 78 := ⟨by decide +kernel, rfl, by decide⟩
theorem eX9_tapes_70 : am_d cX9_tapes 70 (.aload_n 0) 1 71 := ⟨by decide +kernel, rfl⟩
theorem eX9_tapes_71 : am_d cX9_tapes 71 (.iload_n 1) 1 72 := ⟨by decide +kernel, rfl⟩
theorem eX9_tapes_72 : am_d cX9_tapes 72 (.invokevirtual 193) 3 75 := ⟨by decide +kernel, rfl⟩
theorem eX9_tapes_75 : am_b cX9_tapes 75 (.goto 75) (75) 78 150 := ⟨by decide +kernel, rfl, by decide⟩
theorem eX9_tapes_78 : am_d cX9_tapes 78 (.aload_n 0) 1 79 := ⟨by decide +kernel, rfl⟩
theorem eX9_tapes_79 : am_d cX9_tapes 79 (.getfield 81) 3 82 := ⟨by decide +kernel, rfl⟩
theorem eX9_tapes_82 : am_d cX9_tapes 82 (.iload_n 1) 1 83 := ⟨by decide +kernel, rfl⟩
theorem eX9_tapes_83 : am_d cX9_tapes 83 (.iaload) 1 84 := ⟨by decide +kernel, rfl⟩
theorem eX9_tapes_84 : am_b cX9_tapes 84 (.ifCond .le 66) (66) 87 150 := ⟨by decide +kernel, rfl, by decide⟩
theorem eX9_tapes_87 : am_d cX9_tapes 87 (.iload_n 2) 1 88 := ⟨by decide +kernel, rfl⟩
theorem eX9_tapes_88 : am_d cX9_tapes 88 (.bipush 92) 2 90 := ⟨by decide +kernel, rfl⟩
theorem eX9_tapes_90 : am_b cX9_tapes 90 (.if_icmp .ge 60) (60) 93 150 := ⟨by decide +kernel, rfl, by decide⟩
theorem eX9_tapes_93 : am_d cX9_tapes 93 (.bipush 40) 2 95 := ⟨by decide +kernel, rfl⟩
theorem eX9_tapes_95 : am_d cX9_tapes 95 (.iload_n 1) 1 96 := ⟨by decide +kernel, rfl⟩
theorem eX9_tapes_96 : am_d cX9_tapes 96 (.imul) 1 97 := ⟨by decide +kernel, rfl⟩
theorem eX9_tapes_97 : am_d cX9_tapes 97 (.aload_n 0) 1 98 := ⟨by decide +kernel, rfl⟩
theorem eX9_tapes_98 : am_d cX9_tapes 98 (.getfield 81) 3 101 := ⟨by decide +kernel, rfl⟩
theorem eX9_tapes_101 : am_d cX9_tapes 101 (.iload_n 1) 1 102 := ⟨by decide +kernel, rfl⟩
theorem eX9_tapes_102 : am_d cX9_tapes 102 (.iaload) 1 103 := ⟨by decide +kernel, rfl⟩
theorem eX9_tapes_103 : am_d cX9_tapes 103 (.iadd) 1 104 := ⟨by decide +kernel, rfl⟩
theorem eX9_tapes_104 : am_d cX9_tapes 104 (.iconst 1) 1 105 := ⟨by decide +kernel, rfl⟩
theorem eX9_tapes_105 : am_d cX9_tapes 105 (.isub) 1 106 := ⟨by decide +kernel, rfl⟩
theorem eX9_tapes_106 : am_d cX9_tapes 106 (.istore 4) 2 108 := ⟨by decide +kernel, rfl⟩
theorem eX9_tapes_108 : am_d cX9_tapes 108 (.aload_n 0) 1 109 := ⟨by decide +kernel, rfl⟩
theorem eX9_tapes_109 : am_d cX9_tapes 109 (.getfield 90) 3 112 := ⟨by decide +kernel, rfl⟩
theorem eX9_tapes_112 : am_d cX9_tapes 112 (.iload 4) 2 114 := ⟨by decide +kernel, rfl⟩
theorem eX9_tapes_114 : am_d cX9_tapes 114 (.iaload) 1 115 := ⟨by decide +kernel, rfl⟩
theorem eX9_tapes_115 : am_d cX9_tapes 115 (.bipush 60) 2 117 := ⟨by decide +kernel, rfl⟩
theorem eX9_tapes_117 : am_b cX9_tapes 117 (.if_icmp .ge 33) (33) 120 150 := ⟨by decide +kernel, rfl, by decide⟩
theorem eX9_tapes_120 : am_d cX9_tapes 120 (.aload_n 0) 1 121 := ⟨by decide +kernel, rfl⟩
theorem eX9_tapes_121 : am_d cX9_tapes 121 (.getfield 93) 3 124 := ⟨by decide +kernel, rfl⟩
theorem eX9_tapes_124 : am_d cX9_tapes 124 (.bipush 60) 2 126 := ⟨by decide +kernel, rfl⟩
theorem eX9_tapes_126 : am_d cX9_tapes 126 (.iload 4) 2 128 := ⟨by decide +kernel, rfl⟩
theorem eX9_tapes_128 : am_d cX9_tapes 128 (.imul) 1 129 := ⟨by decide +kernel, rfl⟩
theorem eX9_tapes_129 : am_d cX9_tapes 129 (.aload_n 0) 1 130 := ⟨by decide +kernel, rfl⟩
theorem eX9_tapes_130 : am_d cX9_tapes 130 (.getfield 90) 3 133 := ⟨by decide +kernel, rfl⟩
theorem eX9_tapes_133 : am_d cX9_tapes 133 (.iload 4) 2 135 := ⟨by decide +kernel, rfl⟩
theorem eX9_tapes_135 : am_d cX9_tapes 135 (.iaload) 1 136 := ⟨by decide +kernel, rfl⟩
theorem eX9_tapes_136 : am_d cX9_tapes 136 (.iadd) 1 137 := ⟨by decide +kernel, rfl⟩
theorem eX9_tapes_137 : am_d cX9_tapes 137 (.iload_n 2) 1 138 := ⟨by decide +kernel, rfl⟩
theorem eX9_tapes_138 : am_d cX9_tapes 138 (.iastore) 1 139 := ⟨by decide +kernel, rfl⟩
theorem eX9_tapes_139 : am_d cX9_tapes 139 (.aload_n 0) 1 140 := ⟨by decide +kernel, rfl⟩
theorem eX9_tapes_140 : am_d cX9_tapes 140 (.getfield 90) 3 143 := ⟨by decide +kernel, rfl⟩
theorem eX9_tapes_143 : am_d cX9_tapes 143 (.iload 4) 2 145 := ⟨by decide +kernel, rfl⟩
theorem eX9_tapes_145 : am_d cX9_tapes 145 (.dup2) 1 146 := ⟨by decide +kernel, rfl⟩
theorem eX9_tapes_146 : am_d cX9_tapes 146 (.iaload) 1 147 := ⟨by decide +kernel, rfl⟩
theorem eX9_tapes_147 : am_d cX9_tapes 147 (.iconst 1) 1 148 := ⟨by decide +kernel, rfl⟩
theorem eX9_tapes_148 : am_d cX9_tapes 148 (.iadd) 1 149 := ⟨by decide +kernel, rfl⟩
theorem eX9_tapes_149 : am_d cX9_tapes 149 (.iastore) 1 150 := ⟨by decide +kernel, rfl⟩
theorem eX9_tapes_150 : am_d cX9_tapes 150 (.return_) 1 151 := ⟨by decide +kernel, rfl⟩
theorem eX9_reads_0 : am_d cX9_reads 0 (.bipush 31) 2 2 := ⟨by decide +kernel, rfl⟩
theorem eX9_reads_2 : am_d cX9_reads 2 (.aload_n 0) 1 3 := ⟨by decide +kernel, rfl⟩
theorem eX9_reads_3 : am_d cX9_reads 3 (.getfield 7) 3 6 := ⟨by decide +kernel, rfl⟩
theorem eX9_reads_6 : am_d cX9_reads 6 (.imul) 1 7 := ⟨by decide +kernel, rfl⟩
theorem eX9_reads_7 : am_d cX9_reads 7 (.bipush 17) 2 9 := ⟨by decide +kernel, rfl⟩
theorem eX9_reads_9 : am_d cX9_reads 9 (.iload_n 1) 1 10 := ⟨by decide +kernel, rfl⟩
theorem eX9_reads_10 : am_d cX9_reads 10 (.imul) 1 11 := ⟨by decide +kernel, rfl⟩
theorem eX9_reads_11 : am_d cX9_reads 11 (.iadd) 1 12 := ⟨by decide +kernel, rfl⟩
theorem eX9_reads_12 : am_d cX9_reads 12 (.bipush 7) 2 14 := ⟨by decide +kernel, rfl⟩
theorem eX9_reads_14 : am_d cX9_reads 14 (.iload_n 2) 1 15 := ⟨by decide +kernel, rfl⟩
theorem eX9_reads_15 : am_d cX9_reads 15 (.imul) 1 16 := ⟨by decide +kernel, rfl⟩
theorem eX9_reads_16 : am_d cX9_reads 16 (.iadd) 1 17 := ⟨by decide +kernel, rfl⟩
theorem eX9_reads_17 : am_d cX9_reads 17 (.aload_n 0) 1 18 := ⟨by decide +kernel, rfl⟩
theorem eX9_reads_18 : am_d cX9_reads 18 (.getfield 144) 3 21 := ⟨by decide +kernel, rfl⟩
theorem eX9_reads_21 : am_d cX9_reads 21 (.iadd) 1 22 := ⟨by decide +kernel, rfl⟩
theorem eX9_reads_22 : am_d cX9_reads 22 (.sipush 1009) 3 25 := ⟨by decide +kernel, rfl⟩
theorem eX9_reads_25 : am_d cX9_reads 25 (.irem) 1 26 := ⟨by decide +kernel, rfl⟩
theorem eX9_reads_26 : am_d cX9_reads 26 (.istore_n 3) 1 27 := ⟨by decide +kernel, rfl⟩
theorem eX9_reads_27 : am_d cX9_reads 27 (.iload_n 3) 1 28 := ⟨by decide +kernel, rfl⟩
theorem eX9_reads_28 : am_d cX9_reads 28 (.aload_n 0) 1 29 := ⟨by decide +kernel, rfl⟩
theorem eX9_reads_29 : am_d cX9_reads 29 (.getfield 20) 3 32 := ⟨by decide +kernel, rfl⟩
theorem eX9_reads_32 : am_d cX9_reads 32 (.iload_n 1) 1 33 := ⟨by decide +kernel, rfl⟩
theorem eX9_reads_33 : am_d cX9_reads 33 (.iaload) 1 34 := ⟨by decide +kernel, rfl⟩
theorem eX9_reads_34 : am_b cX9_reads 34 (.if_icmp .ge 27) (27) 37 61 := ⟨by decide +kernel, rfl, by decide⟩
theorem eX9_reads_37 : am_d cX9_reads 37 (.iload_n 2) 1 38 := ⟨by decide +kernel, rfl⟩
theorem eX9_reads_38 : am_d cX9_reads 38 (.bipush 92) 2 40 := ⟨by decide +kernel, rfl⟩
theorem eX9_reads_40 : am_b cX9_reads 40 (.if_icmp .ge 21) (21) 43 61 := ⟨by decide +kernel, rfl, by decide⟩
theorem eX9_reads_43 : am_d cX9_reads 43 (.iload_n 2) 1 44 := ⟨by decide +kernel, rfl⟩
theorem eX9_reads_44 : am_d cX9_reads 44 (.iconst 2) 1 45 := ⟨by decide +kernel, rfl⟩
theorem eX9_reads_45 : am_d cX9_reads 45 (.irem) 1 46 := ⟨by decide +kernel, rfl⟩
theorem eX9_reads_46 : am_b cX9_reads 46 (.ifCond .ne 9) (9) 49 55 := ⟨by decide +kernel, rfl, by decide⟩
theorem eX9_reads_49 : am_d cX9_reads 49 (.iload_n 2) 1 50 := ⟨by decide +kernel, rfl⟩
theorem eX9_reads_50 : am_d cX9_reads 50 (.iconst 1) 1 51 := ⟨by decide +kernel, rfl⟩
theorem eX9_reads_51 : am_d cX9_reads 51 (.iadd) 1 52 := ⟨by decide +kernel, rfl⟩
theorem eX9_reads_52 : am_b cX9_reads 52 (.goto 10) (10) 55 62 := ⟨by decide +kernel, rfl, by decide⟩
theorem eX9_reads_55 : am_d cX9_reads 55 (.iload_n 2) 1 56 := ⟨by decide +kernel, rfl⟩
theorem eX9_reads_56 : am_d cX9_reads 56 (.iconst 1) 1 57 := ⟨by decide +kernel, rfl⟩
theorem eX9_reads_57 : am_d cX9_reads 57 (.isub) 1 58 := ⟨by decide +kernel, rfl⟩
theorem eX9_reads_58 : am_b cX9_reads 58 (.goto 4) (4) 61 62 := ⟨by decide +kernel, rfl, by decide⟩
theorem eX9_reads_61 : am_d cX9_reads 61 (.iload_n 2) 1 62 := ⟨by decide +kernel, rfl⟩
theorem eX9_reads_62 : am_d cX9_reads 62 (.ireturn) 1 63 := ⟨by decide +kernel, rfl⟩
theorem eX9_looks_0 : am_d cX9_looks 0 (.iload_n 2) 1 1 := ⟨by decide +kernel, rfl⟩
theorem eX9_looks_1 : am_b cX9_looks 1 (.ifCond .eq 9) (9) 4 10 := ⟨by decide +kernel, rfl, by decide⟩
theorem eX9_looks_4 : am_d cX9_looks 4 (.iload_n 1) 1 5 := ⟨by decide +kernel, rfl⟩
theorem eX9_looks_5 : am_d cX9_looks 5 (.iconst 1) 1 6 := ⟨by decide +kernel, rfl⟩
theorem eX9_looks_6 : am_d cX9_looks 6 (.isub) 1 7 := ⟨by decide +kernel, rfl⟩
theorem eX9_looks_7 : am_b cX9_looks 7 (.goto 6) (6) 10 13 := ⟨by decide +kernel, rfl, by decide⟩
theorem eX9_looks_10 : am_d cX9_looks 10 (.iload_n 1) 1 11 := ⟨by decide +kernel, rfl⟩
theorem eX9_looks_11 : am_d cX9_looks 11 (.iconst 1) 1 12 := ⟨by decide +kernel, rfl⟩
theorem eX9_looks_12 : am_d cX9_looks 12 (.iadd) 1 13 := ⟨by decide +kernel, rfl⟩
theorem eX9_looks_13 : am_d cX9_looks 13 (.istore_n 3) 1 14 := ⟨by decide +kernel, rfl⟩
theorem eX9_looks_14 : am_d cX9_looks 14 (.aload_n 0) 1 15 := ⟨by decide +kernel, rfl⟩
theorem eX9_looks_15 : am_d cX9_looks 15 (.iload_n 3) 1 16 := ⟨by decide +kernel, rfl⟩
theorem eX9_looks_16 : am_d cX9_looks 16 (.invokevirtual 141) 3 19 := ⟨by decide +kernel, rfl⟩
theorem eX9_looks_19 : am_b cX9_looks 19 (.ifCond .ne 4) (4) 22 23 := ⟨by decide +kernel, rfl, by decide⟩
theorem eX9_looks_22 : am_d cX9_looks 22 (.return_) 1 23 := ⟨by decide +kernel, rfl⟩
theorem eX9_looks_23 : am_d cX9_looks 23 (.iload_n 3) 1 24 := ⟨by decide +kernel, rfl⟩
theorem eX9_looks_24 : am_d cX9_looks 24 (.iload_n 2) 1 25 := ⟨by decide +kernel, rfl⟩
theorem eX9_looks_25 : am_d cX9_looks 25 (.invokestatic 171) 3 28 := ⟨by decide +kernel, rfl⟩
theorem eX9_looks_28 : am_d cX9_looks 28 (.istore 4) 2 30 := ⟨by decide +kernel, rfl⟩
theorem eX9_looks_30 : am_d cX9_looks 30 (.iload_n 1) 1 31 := ⟨by decide +kernel, rfl⟩
theorem eX9_looks_31 : am_d cX9_looks 31 (.iload_n 2) 1 32 := ⟨by decide +kernel, rfl⟩
theorem eX9_looks_32 : am_d cX9_looks 32 (.invokestatic 171) 3 35 := ⟨by decide +kernel, rfl⟩
theorem eX9_looks_35 : am_d cX9_looks 35 (.istore 5) 2 37 := ⟨by decide +kernel, rfl⟩
theorem eX9_looks_37 : am_d cX9_looks 37 (.aload_n 0) 1 38 := ⟨by decide +kernel, rfl⟩
theorem eX9_looks_38 : am_d cX9_looks 38 (.iload_n 1) 1 39 := ⟨by decide +kernel, rfl⟩
theorem eX9_looks_39 : am_d cX9_looks 39 (.iload_n 2) 1 40 := ⟨by decide +kernel, rfl⟩
theorem eX9_looks_40 : am_d cX9_looks 40 (.invokevirtual 178) 3 43 := ⟨by decide +kernel, rfl⟩
theorem eX9_looks_43 : am_d cX9_looks 43 (.istore 6) 2 45 := ⟨by decide +kernel, rfl⟩
theorem eX9_looks_45 : am_d cX9_looks 45 (.aload_n 0) 1 46 := ⟨by decide +kernel, rfl⟩
theorem eX9_looks_46 : am_d cX9_looks 46 (.getfield 44) 3 49 := ⟨by decide +kernel, rfl⟩
theorem eX9_looks_49 : am_d cX9_looks 49 (.iload 4) 2 51 := ⟨by decide +kernel, rfl⟩
theorem eX9_looks_51 : am_d cX9_looks 51 (.iaload) 1 52 := ⟨by decide +kernel, rfl⟩
theorem eX9_looks_52 : am_d cX9_looks 52 (.iconst (-1)) 1 53 := ⟨by decide +kernel, rfl⟩
theorem eX9_looks_53 : am_b cX9_looks 53 (.if_icmp .eq 34) (34) 56 87 := ⟨by decide +kernel, rfl, by decide⟩
theorem eX9_looks_56 : am_d cX9_looks 56 (.aload_n 0) 1 57 := ⟨by decide +kernel, rfl⟩
theorem eX9_looks_57 : am_d cX9_looks 57 (.getfield 47) 3 60 := ⟨by decide +kernel, rfl⟩
theorem eX9_looks_60 : am_d cX9_looks 60 (.iload 4) 2 62 := ⟨by decide +kernel, rfl⟩
theorem eX9_looks_62 : am_d cX9_looks 62 (.baload) 1 63 := ⟨by decide +kernel, rfl⟩
theorem eX9_looks_63 : am_b cX9_looks 63 (.ifCond .ne 24) (24) 66 87 := ⟨by decide +kernel, rfl, by decide⟩
theorem eX9_looks_66 : am_d cX9_looks 66 (.iload 6) 2 68 := ⟨by decide +kernel, rfl⟩
theorem eX9_looks_68 : am_b cX9_looks 68 (.ifCond .ne 15) (15) 71 83 := ⟨by decide +kernel, rfl, by decide⟩
theorem eX9_looks_71 : am_d cX9_looks 71 (.aload_n 0) 1 72 := ⟨by decide +kernel, rfl⟩
theorem eX9_looks_72 : am_d cX9_looks 72 (.getfield 35) 3 75 := ⟨by decide +kernel, rfl⟩
theorem eX9_looks_75 : am_d cX9_looks 75 (.iload 5) 2 77 := ⟨by decide +kernel, rfl⟩
theorem eX9_looks_77 : am_d cX9_looks 77 (.iaload) 1 78 := ⟨by decide +kernel, rfl⟩
theorem eX9_looks_78 : am_d cX9_looks 78 (.bipush 10) 2 80 := ⟨by decide +kernel, rfl⟩
theorem eX9_looks_80 : am_b cX9_looks 80 (.if_icmp .ge 7) (7) 83 87 := ⟨by decide +kernel, rfl, by decide⟩
theorem eX9_looks_83 : am_d cX9_looks 83 (.iconst 1) 1 84 := ⟨by decide +kernel, rfl⟩
theorem eX9_looks_84 : am_b cX9_looks 84 (.goto 4) (4) 87 88 := ⟨by decide +kernel, rfl, by decide⟩
theorem eX9_looks_87 : am_d cX9_looks 87 (.iconst 0) 1 88 := ⟨by decide +kernel, rfl⟩
theorem eX9_looks_88 : am_d cX9_looks 88 (.istore 7) 2 90 := ⟨by decide +kernel, rfl⟩
theorem eX9_looks_90 : am_d cX9_looks 90 (.iload 7) 2 92 := ⟨by decide +kernel, rfl⟩
theorem eX9_looks_92 : am_b cX9_looks 92 (.ifCond .eq 88) (88) 95 180 := ⟨by decide +kernel, rfl, by decide⟩
theorem eX9_looks_95 : am_d cX9_looks 95 (.aload_n 0) 1 96 := ⟨by decide +kernel, rfl⟩
theorem eX9_looks_96 : am_d cX9_looks 96 (.iload_n 2) 1 97 := ⟨by decide +kernel, rfl⟩
theorem eX9_looks_97 : am_b cX9_looks 97 (.ifCond .eq 7) (7) 100 104 := ⟨by decide +kernel, rfl, by decide⟩
theorem eX9_looks_100 : am_d cX9_looks 100 (.iload_n 3) 1 101 := ⟨by decide +kernel, rfl⟩
theorem eX9_looks_101 : am_b cX9_looks 101 (.goto 4) (4) 104 105 := ⟨by decide +kernel, rfl, by decide⟩
theorem eX9_looks_104 : am_d cX9_looks 104 (.iload_n 1) 1 105 := ⟨by decide +kernel, rfl⟩
theorem eX9_looks_105 : am_d cX9_looks 105 (.invokevirtual 197) 3 108 := ⟨by decide +kernel, rfl⟩
theorem eX9_looks_108 : am_b cX9_looks 108 (.ifCond .eq 72) (72) 111 180 := ⟨by decide +kernel, rfl, by decide⟩
theorem eX9_looks_111 : am_d cX9_looks 111 (.aload_n 0) 1 112 := ⟨by decide +kernel, rfl⟩
theorem eX9_looks_112 : am_d cX9_looks 112 (.getfield 47) 3 115 := ⟨by decide +kernel, rfl⟩
theorem eX9_looks_115 : am_d cX9_looks 115 (.iload 4) 2 117 := ⟨by decide +kernel, rfl⟩
theorem eX9_looks_117 : am_d cX9_looks 117 (.iconst 1) 1 118 := ⟨by decide +kernel, rfl⟩
theorem eX9_looks_118 : am_d cX9_looks 118 (.bastore) 1 119 := ⟨by decide +kernel, rfl⟩
theorem eX9_looks_119 : am_d cX9_looks 119 (.aload_n 0) 1 120 := ⟨by decide +kernel, rfl⟩
theorem eX9_looks_120 : am_d cX9_looks 120 (.iload_n 1) 1 121 := ⟨by decide +kernel, rfl⟩
theorem eX9_looks_121 : am_d cX9_looks 121 (.aload_n 0) 1 122 := ⟨by decide +kernel, rfl⟩
theorem eX9_looks_122 : am_d cX9_looks 122 (.getfield 44) 3 125 := ⟨by decide +kernel, rfl⟩
theorem eX9_looks_125 : am_d cX9_looks 125 (.iload 4) 2 127 := ⟨by decide +kernel, rfl⟩
theorem eX9_looks_127 : am_d cX9_looks 127 (.iaload) 1 128 := ⟨by decide +kernel, rfl⟩
theorem eX9_looks_128 : am_d cX9_looks 128 (.invokevirtual 200) 3 131 := ⟨by decide +kernel, rfl⟩
theorem eX9_looks_131 : am_d cX9_looks 131 (.istore 8) 2 133 := ⟨by decide +kernel, rfl⟩
theorem eX9_looks_133 : am_d cX9_looks 133 (.aload_n 0) 1 134 := ⟨by decide +kernel, rfl⟩
theorem eX9_looks_134 : am_d cX9_looks 134 (.iload 5) 2 136 := ⟨by decide +kernel, rfl⟩
theorem eX9_looks_136 : am_d cX9_looks 136 (.iload 8) 2 138 := ⟨by decide +kernel, rfl⟩
theorem eX9_looks_138 : am_d cX9_looks 138 (.iconst 0) 1 139 := ⟨by decide +kernel, rfl⟩
theorem eX9_looks_139 : am_d cX9_looks 139 (.invokevirtual 182) 3 142 := ⟨by decide +kernel, rfl⟩
theorem eX9_looks_142 : am_d cX9_looks 142 (.iload 6) 2 144 := ⟨by decide +kernel, rfl⟩
theorem eX9_looks_144 : am_b cX9_looks 144 (.ifCond .eq 21) (21) 147 165 := ⟨by decide +kernel, rfl, by decide⟩
theorem eX9_looks_147 : am_d cX9_looks 147 (.aload_n 0) 1 148 := ⟨by decide +kernel, rfl⟩
theorem eX9_looks_148 : am_d cX9_looks 148 (.iload_n 2) 1 149 := ⟨by decide +kernel, rfl⟩
theorem eX9_looks_149 : am_b cX9_looks 149 (.ifCond .eq 7) (7) 152 156 := ⟨by decide +kernel, rfl, by decide⟩
theorem eX9_looks_152 : am_d cX9_looks 152 (.iconst 1) 1 153 := ⟨by decide +kernel, rfl⟩
theorem eX9_looks_153 : am_b cX9_looks 153 (.goto 4) (4) 156 157 := ⟨by decide +kernel, rfl, by decide⟩
theorem eX9_looks_156 : am_d cX9_looks 156 (.iconst 0) 1 157 := ⟨by decide +kernel, rfl⟩
theorem eX9_looks_157 : am_d cX9_looks 157 (.iload 8) 2 159 := ⟨by decide +kernel, rfl⟩
theorem eX9_looks_159 : am_d cX9_looks 159 (.invokevirtual 203) 3 162 := ⟨by decide +kernel, rfl⟩
theorem eX9_looks_162 : am_b cX9_looks 162 (.goto 18) (18) 165 180 := ⟨by decide +kernel, rfl, by decide⟩
theorem eX9_looks_165 : am_d cX9_looks 165 (.aload_n 0) 1 166 := ⟨by decide +kernel, rfl⟩
theorem eX9_looks_166 : am_d cX9_looks 166 (.iload 5) 2 168 := ⟨by decide +kernel, rfl⟩
theorem eX9_looks_168 : am_d cX9_looks 168 (.aload_n 0) 1 169 := ⟨by decide +kernel, rfl⟩
theorem eX9_looks_169 : am_d cX9_looks 169 (.getfield 35) 3 172 := ⟨by decide +kernel, rfl⟩
theorem eX9_looks_172 : am_d cX9_looks 172 (.iload 5) 2 174 := ⟨by decide +kernel, rfl⟩
theorem eX9_looks_174 : am_d cX9_looks 174 (.iaload) 1 175 := ⟨by decide +kernel, rfl⟩
theorem eX9_looks_175 : am_d cX9_looks 175 (.iload 8) 2 177 := ⟨by decide +kernel, rfl⟩
theorem eX9_looks_177 : am_d cX9_looks 177 (.invokevirtual 174) 3 180 := ⟨by decide +kernel, rfl⟩
theorem eX9_looks_180 : am_d cX9_looks 180 (.return_) 1 181 := ⟨by decide +kernel, rfl⟩
theorem eX9_spies_0 : am_d cX9_spies 0 (.iconst 0) 1 1 := ⟨by decide +kernel, rfl⟩
theorem eX9_spies_1 : am_d cX9_spies 1 (.istore_n 3) 1 2 := ⟨by decide +kernel, rfl⟩
theorem eX9_spies_2 : am_d cX9_spies 2 (.iload_n 3) 1 3 := ⟨by decide +kernel, rfl⟩
theorem eX9_spies_3 : am_d cX9_spies 3 (.aload_n 0) 1 4 := ⟨by decide +kernel, rfl⟩
theorem eX9_spies_4 : am_d cX9_spies 4 (.getfield 186) 3 7 := ⟨by decide +kernel, rfl⟩
theorem eX9_spies_7 : am_b cX9_spies 7 (.if_icmp .ge 82) (82) 10 89 := ⟨by decide +kernel, rfl, by decide⟩
theorem eX9_spies_10 : am_d cX9_spies 10 (.aload_n 0) 1 11 := ⟨by decide +kernel, rfl⟩
theorem eX9_spies_11 : am_d cX9_spies 11 (.getfield 114) 3 14 := ⟨by decide +kernel, rfl⟩
theorem eX9_spies_14 : am_d cX9_spies 14 (.iload_n 3) 1 15 := ⟨by decide +kernel, rfl⟩
theorem eX9_spies_15 : am_d cX9_spies 15 (.iaload) 1 16 := ⟨by decide +kernel, rfl⟩
theorem eX9_spies_16 : am_d cX9_spies 16 (.iload_n 1) 1 17 := ⟨by decide +kernel, rfl⟩
theorem eX9_spies_17 : am_b cX9_spies 17 (.if_icmp .ne 66) (66) 20 83 := ⟨by decide +kernel, rfl, by decide⟩
theorem eX9_spies_20 : am_d cX9_spies 20 (.iload_n 2) 1 21 := ⟨by decide +kernel, rfl⟩
theorem eX9_spies_21 : am_d cX9_spies 21 (.bipush 92) 2 23 := ⟨by decide +kernel, rfl⟩
theorem eX9_spies_23 : am_b cX9_spies 23 (.if_icmp .ge 60) (60) 26 83 := ⟨by decide +kernel, rfl, by decide⟩
theorem eX9_spies_26 : am_d cX9_spies 26 (.aload_n 0) 1 27 := ⟨by decide +kernel, rfl⟩
theorem eX9_spies_27 : am_d cX9_spies 27 (.invokevirtual 147) 3 30 := ⟨by decide +kernel, rfl⟩
theorem eX9_spies_30 : am_b cX9_spies 30 (.ifCond .eq 53) (53) 33 83 := ⟨by decide +kernel, rfl, by decide⟩
theorem eX9_spies_33 : am_d cX9_spies 33 (.aload_n 0) 1 34 := ⟨by decide +kernel, rfl⟩
theorem eX9_spies_34 : am_d cX9_spies 34 (.getfield 23) 3 37 := ⟨by decide +kernel, rfl⟩
theorem eX9_spies_37 : am_d cX9_spies 37 (.iload_n 1) 1 38 := ⟨by decide +kernel, rfl⟩
theorem eX9_spies_38 : am_d cX9_spies 38 (.iaload) 1 39 := ⟨by decide +kernel, rfl⟩
theorem eX9_spies_39 : am_d cX9_spies 39 (.iconst 2) 1 40 := ⟨by decide +kernel, rfl⟩
theorem eX9_spies_40 : am_b cX9_spies 40 (.if_icmp .eq 43) (43) 43 83 := ⟨by decide +kernel, rfl, by decide⟩
theorem eX9_spies_43 : am_d cX9_spies 43 (.aload_n 0) 1 44 := ⟨by decide +kernel, rfl⟩
theorem eX9_spies_44 : am_d cX9_spies 44 (.getfield 117) 3 47 := ⟨by decide +kernel, rfl⟩
theorem eX9_spies_47 : am_d cX9_spies 47 (.iload_n 3) 1 48 := ⟨by decide +kernel, rfl⟩
theorem eX9_spies_48 : am_d cX9_spies 48 (.iaload) 1 49 := ⟨by decide +kernel, rfl⟩
theorem eX9_spies_49 : am_d cX9_spies 49 (.sipush 200) 3 52 := ⟨by decide +kernel, rfl⟩
theorem eX9_spies_52 : am_b cX9_spies 52 (.if_icmp .ge 31) (31) 55 83 := ⟨by decide +kernel, rfl, by decide⟩
theorem eX9_spies_55 : am_d cX9_spies 55 (.aload_n 0) 1 56 := ⟨by decide +kernel, rfl⟩
theorem eX9_spies_56 : am_d cX9_spies 56 (.getfield 120) 3 59 := ⟨by decide +kernel, rfl⟩
theorem eX9_spies_59 : am_d cX9_spies 59 (.sipush 200) 3 62 := ⟨by decide +kernel, rfl⟩
theorem eX9_spies_62 : am_d cX9_spies 62 (.iload_n 3) 1 63 := ⟨by decide +kernel, rfl⟩
theorem eX9_spies_63 : am_d cX9_spies 63 (.imul) 1 64 := ⟨by decide +kernel, rfl⟩
theorem eX9_spies_64 : am_d cX9_spies 64 (.aload_n 0) 1 65 := ⟨by decide +kernel, rfl⟩
theorem eX9_spies_65 : am_d cX9_spies 65 (.getfield 117) 3 68 := ⟨by decide +kernel, rfl⟩
theorem eX9_spies_68 : am_d cX9_spies 68 (.iload_n 3) 1 69 := ⟨by decide +kernel, rfl⟩
theorem eX9_spies_69 : am_d cX9_spies 69 (.iaload) 1 70 := ⟨by decide +kernel, rfl⟩
theorem eX9_spies_70 : am_d cX9_spies 70 (.iadd) 1 71 := ⟨by decide +kernel, rfl⟩
theorem eX9_spies_71 : am_d cX9_spies 71 (.iload_n 2) 1 72 := ⟨by decide +kernel, rfl⟩
theorem eX9_spies_72 : am_d cX9_spies 72 (.iastore) 1 73 := ⟨by decide +kernel, rfl⟩
theorem eX9_spies_73 : am_d cX9_spies 73 (.aload_n 0) 1 74 := ⟨by decide +kernel, rfl⟩
theorem eX9_spies_74 : am_d cX9_spies 74 (.getfield 117) 3 77 := ⟨by decide +kernel, rfl⟩
theorem eX9_spies_77 : am_d cX9_spies 77 (.iload_n 3) 1 78 := ⟨by decide +kernel, rfl⟩
theorem eX9_spies_78 : am_d cX9_spies 78 (.dup2) 1 79 := ⟨by decide +kernel, rfl⟩
theorem eX9_spies_79 : am_d cX9_spies 79 (.iaload) 1 80 := ⟨by decide +kernel, rfl⟩
theorem eX9_spies_80 : am_d cX9_spies 80 (.iconst 1) 1 81 := ⟨by decide +kernel, rfl⟩
theorem eX9_spies_81 : am_d cX9_spies 81 (.iadd) 1 82 := ⟨by decide +kernel, rfl⟩
theorem eX9_spies_82 : am_d cX9_spies 82 (.iastore) 1 83 := ⟨by decide +kernel, rfl⟩
theorem eX9_spies_83 : am_d cX9_spies 83 (.iinc 3 1) 3 86 := ⟨by decide +kernel, rfl⟩
theorem eX9_spies_86 : am_b cX9_spies 86 (.goto (-84)) (-84) 89 2 := ⟨by decide +kernel, rfl, by decide⟩
theorem eX9_spies_89 : am_d cX9_spies 89 (.return_) 1 90 := ⟨by decide +kernel, rfl⟩
theorem eX9_turnsTo_0 : am_d cX9_turnsTo 0 (.aload_n 0) 1 1 := ⟨by decide +kernel, rfl⟩
theorem eX9_turnsTo_1 : am_d cX9_turnsTo 1 (.iload_n 1) 1 2 := ⟨by decide +kernel, rfl⟩
theorem eX9_turnsTo_2 : am_d cX9_turnsTo 2 (.iload_n 2) 1 3 := ⟨by decide +kernel, rfl⟩
theorem eX9_turnsTo_3 : am_d cX9_turnsTo 3 (.invokevirtual 178) 3 6 := ⟨by decide +kernel, rfl⟩
theorem eX9_turnsTo_6 : am_b cX9_turnsTo 6 (.ifCond .ne 22) (22) 9 28 := ⟨by decide +kernel, rfl, by decide⟩
theorem eX9_turnsTo_9 : am_d cX9_turnsTo 9 (.aload_n 0) 1 10 := ⟨by decide +kernel, rfl⟩
theorem eX9_turnsTo_10 : am_d cX9_turnsTo 10 (.getfield 44) 3 13 := ⟨by decide +kernel, rfl⟩
theorem eX9_turnsTo_13 : am_d cX9_turnsTo 13 (.iload_n 3) 1 14 := ⟨by decide +kernel, rfl⟩
theorem eX9_turnsTo_14 : am_d cX9_turnsTo 14 (.iaload) 1 15 := ⟨by decide +kernel, rfl⟩
theorem eX9_turnsTo_15 : am_d cX9_turnsTo 15 (.iconst (-1)) 1 16 := ⟨by decide +kernel, rfl⟩
theorem eX9_turnsTo_16 : am_b cX9_turnsTo 16 (.if_icmp .eq 13) (13) 19 29 := ⟨by decide +kernel, rfl, by decide⟩
theorem eX9_turnsTo_19 : am_d cX9_turnsTo 19 (.aload_n 0) 1 20 := ⟨by decide +kernel, rfl⟩
theorem eX9_turnsTo_20 : am_d cX9_turnsTo 20 (.getfield 47) 3 23 := ⟨by decide +kernel, rfl⟩
theorem eX9_turnsTo_23 : am_d cX9_turnsTo 23 (.iload_n 3) 1 24 := ⟨by decide +kernel, rfl⟩
theorem eX9_turnsTo_24 : am_d cX9_turnsTo 24 (.baload) 1 25 := ⟨by decide +kernel, rfl⟩
theorem eX9_turnsTo_25 : am_b cX9_turnsTo 25 (.ifCond .ne 4) (4) 28 29 := ⟨by decide +kernel, rfl, by decide⟩
theorem eX9_turnsTo_28 : am_d cX9_turnsTo 28 (.return_) 1 29 := ⟨by decide +kernel, rfl⟩
theorem eX9_turnsTo_29 : am_d cX9_turnsTo 29 (.aload_n 0) 1 30 := ⟨by decide +kernel, rfl⟩
theorem eX9_turnsTo_30 : am_d cX9_turnsTo 30 (.getfield 47) 3 33 := ⟨by decide +kernel, rfl⟩
theorem eX9_turnsTo_33 : am_d cX9_turnsTo 33 (.iload_n 3) 1 34 := ⟨by decide +kernel, rfl⟩
theorem eX9_turnsTo_34 : am_d cX9_turnsTo 34 (.iconst 0) 1 35 := ⟨by decide +kernel, rfl⟩
theorem eX9_turnsTo_35 : am_d cX9_turnsTo 35 (.bastore) 1 36 := ⟨by decide +kernel, rfl⟩
theorem eX9_turnsTo_36 : am_d cX9_turnsTo 36 (.aload_n 0) 1 37 := ⟨by decide +kernel, rfl⟩
theorem eX9_turnsTo_37 : am_d cX9_turnsTo 37 (.getfield 44) 3 40 := ⟨by decide +kernel, rfl⟩
theorem eX9_turnsTo_40 : am_d cX9_turnsTo 40 (.iload_n 3) 1 41 := ⟨by decide +kernel, rfl⟩
theorem eX9_turnsTo_41 : am_d cX9_turnsTo 41 (.iconst (-1)) 1 42 := ⟨by decide +kernel, rfl⟩
theorem eX9_turnsTo_42 : am_d cX9_turnsTo 42 (.iastore) 1 43 := ⟨by decide +kernel, rfl⟩
theorem eX9_turnsTo_43 : am_d cX9_turnsTo 43 (.aload_n 0) 1 44 := ⟨by decide +kernel, rfl⟩
theorem eX9_turnsTo_44 : am_d cX9_turnsTo 44 (.getfield 35) 3 47 := ⟨by decide +kernel, rfl⟩
theorem eX9_turnsTo_47 : am_d cX9_turnsTo 47 (.iload_n 3) 1 48 := ⟨by decide +kernel, rfl⟩
theorem eX9_turnsTo_48 : am_d cX9_turnsTo 48 (.iaload) 1 49 := ⟨by decide +kernel, rfl⟩
theorem eX9_turnsTo_49 : am_b cX9_turnsTo 49 (.ifCond .le 115) (115) 52 164 := ⟨by decide +kernel, rfl, by decide⟩
theorem eX9_turnsTo_52 : am_d cX9_turnsTo 52 (.aload_n 0) 1 53 := ⟨by decide +kernel, rfl⟩
theorem eX9_turnsTo_53 : am_d cX9_turnsTo 53 (.getfield 44) 3 56 := ⟨by decide +kernel, rfl⟩
theorem eX9_turnsTo_56 : am_d cX9_turnsTo 56 (.iload_n 3) 1 57 := ⟨by decide +kernel, rfl⟩
theorem eX9_turnsTo_57 : am_d cX9_turnsTo 57 (.aload_n 0) 1 58 := ⟨by decide +kernel, rfl⟩
theorem eX9_turnsTo_58 : am_d cX9_turnsTo 58 (.getfield 41) 3 61 := ⟨by decide +kernel, rfl⟩
theorem eX9_turnsTo_61 : am_d cX9_turnsTo 61 (.sipush 220) 3 64 := ⟨by decide +kernel, rfl⟩
theorem eX9_turnsTo_64 : am_d cX9_turnsTo 64 (.iload_n 3) 1 65 := ⟨by decide +kernel, rfl⟩
theorem eX9_turnsTo_65 : am_d cX9_turnsTo 65 (.imul) 1 66 := ⟨by decide +kernel, rfl⟩
theorem eX9_turnsTo_66 : am_d cX9_turnsTo 66 (.iaload) 1 67 := ⟨by decide +kernel, rfl⟩
theorem eX9_turnsTo_67 : am_d cX9_turnsTo 67 (.iastore) 1 68 := ⟨by decide +kernel, rfl⟩
theorem eX9_turnsTo_68 : am_d cX9_turnsTo 68 (.aload_n 0) 1 69 := ⟨by decide +kernel, rfl⟩
theorem eX9_turnsTo_69 : am_d cX9_turnsTo 69 (.getfield 35) 3 72 := ⟨by decide +kernel, rfl⟩
theorem eX9_turnsTo_72 : am_d cX9_turnsTo 72 (.iload_n 3) 1 73 := ⟨by decide +kernel, rfl⟩
theorem eX9_turnsTo_73 : am_d cX9_turnsTo 73 (.dup2) 1 74 := ⟨by decide +kernel, rfl⟩
theorem eX9_turnsTo_74 : am_d cX9_turnsTo 74 (.iaload) 1 75 := ⟨by decide +kernel, rfl⟩
theorem eX9_turnsTo_75 : am_d cX9_turnsTo 75 (.iconst 1) 1 76 := ⟨by decide +kernel, rfl⟩
theorem eX9_turnsTo_76 : am_d cX9_turnsTo 76 (.isub) 1 77 := ⟨by decide +kernel, rfl⟩
theorem eX9_turnsTo_77 : am_d cX9_turnsTo 77 (.iastore) 1 78 := ⟨by decide +kernel, rfl⟩
theorem eX9_turnsTo_78 : am_d cX9_turnsTo 78 (.aload_n 0) 1 79 := ⟨by decide +kernel, rfl⟩
theorem eX9_turnsTo_79 : am_d cX9_turnsTo 79 (.getfield 38) 3 82 := ⟨by decide +kernel, rfl⟩
theorem eX9_turnsTo_82 : am_d cX9_turnsTo 82 (.iload_n 3) 1 83 := ⟨by decide +kernel, rfl⟩
theorem eX9_turnsTo_83 : am_d cX9_turnsTo 83 (.dup2) 1 84 := ⟨by decide +kernel, rfl⟩
theorem eX9_turnsTo_84 : am_d cX9_turnsTo 84 (.iaload) 1 85 := ⟨by decide +kernel, rfl⟩
theorem eX9_turnsTo_85 : am_d cX9_turnsTo 85 (.aload_n 0) 1 86 := ⟨by decide +kernel, rfl⟩
theorem eX9_turnsTo_86 : am_d cX9_turnsTo 86 (.getfield 38) 3 89 := ⟨by decide +kernel, rfl⟩
theorem eX9_turnsTo_89 : am_d cX9_turnsTo 89 (.iload_n 3) 1 90 := ⟨by decide +kernel, rfl⟩
theorem eX9_turnsTo_90 : am_d cX9_turnsTo 90 (.iaload) 1 91 := ⟨by decide +kernel, rfl⟩
theorem eX9_turnsTo_91 : am_b cX9_turnsTo 91 (.ifCond .le 7) (7) 94 98 := ⟨by decide +kernel, rfl, by decide⟩
theorem eX9_turnsTo_94 : am_d cX9_turnsTo 94 (.iconst 1) 1 95 := ⟨by decide +kernel, rfl⟩
theorem eX9_turnsTo_95 : am_b cX9_turnsTo 95 (.goto 4) (4) 98 99 := ⟨by decide +kernel, rfl, by decide⟩
theorem eX9_turnsTo_98 : am_d cX9_turnsTo 98 (.iconst 0) 1 99 := ⟨by decide +kernel, rfl⟩
theorem eX9_turnsTo_99 : am_d cX9_turnsTo 99 (.isub) 1 100 := ⟨by decide +kernel, rfl⟩
theorem eX9_turnsTo_100 : am_d cX9_turnsTo 100 (.iastore) 1 101 := ⟨by decide +kernel, rfl⟩
theorem eX9_turnsTo_101 : am_d cX9_turnsTo 101 (.iconst 0) 1 102 := ⟨by decide +kernel, rfl⟩
theorem eX9_turnsTo_102 : am_d cX9_turnsTo 102 (.istore 4) 2 104 := ⟨by decide +kernel, rfl⟩
theorem eX9_turnsTo_104 : am_d cX9_turnsTo 104 (.iload 4) 2 106 := ⟨by decide +kernel, rfl⟩
theorem eX9_turnsTo_106 : am_d cX9_turnsTo 106 (.aload_n 0) 1 107 := ⟨by decide +kernel, rfl⟩
theorem eX9_turnsTo_107 : am_d cX9_turnsTo 107 (.getfield 35) 3 110 := ⟨by decide +kernel, rfl⟩
theorem eX9_turnsTo_110 : am_d cX9_turnsTo 110 (.iload_n 3) 1 111 := ⟨by decide +kernel, rfl⟩
theorem eX9_turnsTo_111 : am_d cX9_turnsTo 111 (.iaload) 1 112 := ⟨by decide +kernel, rfl⟩
theorem eX9_turnsTo_112 : am_b cX9_turnsTo 112 (.if_icmp .ge 37) (37) 115 149 := ⟨by decide +kernel, rfl, by decide⟩
theorem eX9_turnsTo_115 : am_d cX9_turnsTo 115 (.aload_n 0) 1 116 := ⟨by decide +kernel, rfl⟩
theorem eX9_turnsTo_116 : am_d cX9_turnsTo 116 (.getfield 41) 3 119 := ⟨by decide +kernel, rfl⟩
theorem eX9_turnsTo_119 : am_d cX9_turnsTo 119 (.sipush 220) 3 122 := ⟨by decide +kernel, rfl⟩
theorem eX9_turnsTo_122 : am_d cX9_turnsTo 122 (.iload_n 3) 1 123 := ⟨by decide +kernel, rfl⟩
theorem eX9_turnsTo_123 : am_d cX9_turnsTo 123 (.imul) 1 124 := ⟨by decide +kernel, rfl⟩
theorem eX9_turnsTo_124 : am_d cX9_turnsTo 124 (.iload 4) 2 126 := ⟨by decide +kernel, rfl⟩
theorem eX9_turnsTo_126 : am_d cX9_turnsTo 126 (.iadd) 1 127 := ⟨by decide +kernel, rfl⟩
theorem eX9_turnsTo_127 : am_d cX9_turnsTo 127 (.aload_n 0) 1 128 := ⟨by decide +kernel, rfl⟩
theorem eX9_turnsTo_128 : am_d cX9_turnsTo 128 (.getfield 41) 3 131 := ⟨by decide +kernel, rfl⟩
theorem eX9_turnsTo_131 : am_d cX9_turnsTo 131 (.sipush 220) 3 134 := ⟨by decide +kernel, rfl⟩
theorem eX9_turnsTo_134 : am_d cX9_turnsTo 134 (.iload_n 3) 1 135 := ⟨by decide +kernel, rfl⟩
theorem eX9_turnsTo_135 : am_d cX9_turnsTo 135 (.imul) 1 136 := ⟨by decide +kernel, rfl⟩
theorem eX9_turnsTo_136 : am_d cX9_turnsTo 136 (.iload 4) 2 138 := ⟨by decide +kernel, rfl⟩
theorem eX9_turnsTo_138 : am_d cX9_turnsTo 138 (.iadd) 1 139 := ⟨by decide +kernel, rfl⟩
theorem eX9_turnsTo_139 : am_d cX9_turnsTo 139 (.iconst 1) 1 140 := ⟨by decide +kernel, rfl⟩
theorem eX9_turnsTo_140 : am_d cX9_turnsTo 140 (.iadd) 1 141 := ⟨by decide +kernel, rfl⟩
theorem eX9_turnsTo_141 : am_d cX9_turnsTo 141 (.iaload) 1 142 := ⟨by decide +kernel, rfl⟩
theorem eX9_turnsTo_142 : am_d cX9_turnsTo 142 (.iastore) 1 143 := ⟨by decide +kernel, rfl⟩
theorem eX9_turnsTo_143 : am_d cX9_turnsTo 143 (.iinc 4 1) 3 146 := ⟨by decide +kernel, rfl⟩
theorem eX9_turnsTo_146 : am_b cX9_turnsTo 146 (.goto (-42)) (-42) 149 104 := ⟨by decide +kernel, rfl, by decide⟩
theorem eX9_turnsTo_149 : am_d cX9_turnsTo 149 (.iload_n 2) 1 150 := ⟨by decide +kernel, rfl⟩
theorem eX9_turnsTo_150 : am_b cX9_turnsTo 150 (.ifCond .eq 14) (14) 153 164 := ⟨by decide +kernel, rfl, by decide⟩
theorem eX9_turnsTo_153 : am_d cX9_turnsTo 153 (.aload_n 0) 1 154 := ⟨by decide +kernel, rfl⟩
theorem eX9_turnsTo_154 : am_d cX9_turnsTo 154 (.iload_n 1) 1 155 := ⟨by decide +kernel, rfl⟩
theorem eX9_turnsTo_155 : am_d cX9_turnsTo 155 (.aload_n 0) 1 156 := ⟨by decide +kernel, rfl⟩
theorem eX9_turnsTo_156 : am_d cX9_turnsTo 156 (.getfield 44) 3 159 := ⟨by decide +kernel, rfl⟩
theorem eX9_turnsTo_159 : am_d cX9_turnsTo 159 (.iload_n 3) 1 160 := ⟨by decide +kernel, rfl⟩
theorem eX9_turnsTo_160 : am_d cX9_turnsTo 160 (.iaload) 1 161 := ⟨by decide +kernel, rfl⟩
theorem eX9_turnsTo_161 : am_d cX9_turnsTo 161 (.invokevirtual 207) 3 164 := ⟨by decide +kernel, rfl⟩
theorem eX9_turnsTo_164 : am_d cX9_turnsTo 164 (.return_) 1 165 := ⟨by decide +kernel, rfl⟩
theorem eX9_pass_0 : am_d cX9_pass 0 (.aload_n 0) 1 1 := ⟨by decide +kernel, rfl⟩
theorem eX9_pass_1 : am_d cX9_pass 1 (.iload_n 1) 1 2 := ⟨by decide +kernel, rfl⟩
theorem eX9_pass_2 : am_d cX9_pass 2 (.iconst 1) 1 3 := ⟨by decide +kernel, rfl⟩
theorem eX9_pass_3 : am_d cX9_pass 3 (.sipush 200) 3 6 := ⟨by decide +kernel, rfl⟩
theorem eX9_pass_6 : am_d cX9_pass 6 (.invokestatic 129) 3 9 := ⟨by decide +kernel, rfl⟩
theorem eX9_pass_9 : am_b cX9_pass 9 (.ifCond .eq 7) (7) 12 16 := ⟨by decide +kernel, rfl, by decide⟩
theorem eX9_pass_12 : am_d cX9_pass 12 (.iconst 0) 1 13 := ⟨by decide +kernel, rfl⟩
theorem eX9_pass_13 : am_b cX9_pass 13 (.goto 4) (4) 16 17 := ⟨by decide +kernel, rfl, by decide⟩
theorem eX9_pass_16 : am_d cX9_pass 16 (.iconst 1) 1 17 := ⟨by decide +kernel, rfl⟩
theorem eX9_pass_17 : am_d cX9_pass 17 (.putfield 123) 3 20 := ⟨by decide +kernel, rfl⟩
theorem eX9_pass_20 : am_d cX9_pass 20 (.iconst 0) 1 21 := ⟨by decide +kernel, rfl⟩
theorem eX9_pass_21 : am_d cX9_pass 21 (.istore_n 2) 1 22 := ⟨by decide +kernel, rfl⟩
theorem eX9_pass_22 : am_d cX9_pass 22 (.iload_n 2) 1 23 := ⟨by decide +kernel, rfl⟩
theorem eX9_pass_23 : am_d cX9_pass 23 (.iload_n 1) 1 24 := ⟨by decide +kernel, rfl⟩
theorem eX9_pass_24 : am_b cX9_pass 24 (.if_icmp .ge 97) (97) 27 121 := ⟨by decide +kernel, rfl, by decide⟩
theorem eX9_pass_27 : am_d cX9_pass 27 (.aload_n 0) 1 28 := ⟨by decide +kernel, rfl⟩
theorem eX9_pass_28 : am_d cX9_pass 28 (.getfield 123) 3 31 := ⟨by decide +kernel, rfl⟩
theorem eX9_pass_31 : am_b cX9_pass 31 (.ifCond .ne 90) (90) 34 121 := ⟨by decide +kernel, rfl, by decide⟩
theorem eX9_pass_34 : am_d cX9_pass 34 (.aload_n 0) 1 35 := ⟨by decide +kernel, rfl⟩
theorem eX9_pass_35 : am_d cX9_pass 35 (.iconst 1) 1 36 := ⟨by decide +kernel, rfl⟩
theorem eX9_pass_36 : am_d cX9_pass 36 (.putfield 133) 3 39 := ⟨by decide +kernel, rfl⟩
theorem eX9_pass_39 : am_d cX9_pass 39 (.aload_n 0) 1 40 := ⟨by decide +kernel, rfl⟩
theorem eX9_pass_40 : am_d cX9_pass 40 (.dup) 1 41 := ⟨by decide +kernel, rfl⟩
theorem eX9_pass_41 : am_d cX9_pass 41 (.getfield 7) 3 44 := ⟨by decide +kernel, rfl⟩
theorem eX9_pass_44 : am_d cX9_pass 44 (.iconst 1) 1 45 := ⟨by decide +kernel, rfl⟩
theorem eX9_pass_45 : am_d cX9_pass 45 (.iadd) 1 46 := ⟨by decide +kernel, rfl⟩
theorem eX9_pass_46 : am_d cX9_pass 46 (.putfield 7) 3 49 := ⟨by decide +kernel, rfl⟩
theorem eX9_pass_49 : am_d cX9_pass 49 (.iconst 0) 1 50 := ⟨by decide +kernel, rfl⟩
theorem eX9_pass_50 : am_d cX9_pass 50 (.istore_n 3) 1 51 := ⟨by decide +kernel, rfl⟩
theorem eX9_pass_51 : am_d cX9_pass 51 (.iload_n 3) 1 52 := ⟨by decide +kernel, rfl⟩
theorem eX9_pass_52 : am_d cX9_pass 52 (.aload_n 0) 1 53 := ⟨by decide +kernel, rfl⟩
theorem eX9_pass_53 : am_d cX9_pass 53 (.getfield 126) 3 56 := ⟨by decide +kernel, rfl⟩
theorem eX9_pass_56 : am_b cX9_pass 56 (.if_icmp .ge 21) (21) 59 77 := ⟨by decide +kernel, rfl, by decide⟩
theorem eX9_pass_59 : am_d cX9_pass 59 (.aload_n 0) 1 60 := ⟨by decide +kernel, rfl⟩
theorem eX9_pass_60 : am_d cX9_pass 60 (.iload_n 3) 1 61 := ⟨by decide +kernel, rfl⟩
theorem eX9_pass_61 : am_d cX9_pass 61 (.iconst 1) 1 62 := ⟨by decide +kernel, rfl⟩
theorem eX9_pass_62 : am_d cX9_pass 62 (.invokevirtual 210) 3 65 := ⟨by decide +kernel, rfl⟩
theorem eX9_pass_65 : am_d cX9_pass 65 (.aload_n 0) 1 66 := ⟨by decide +kernel, rfl⟩
theorem eX9_pass_66 : am_d cX9_pass 66 (.iload_n 3) 1 67 := ⟨by decide +kernel, rfl⟩
theorem eX9_pass_67 : am_d cX9_pass 67 (.iconst 0) 1 68 := ⟨by decide +kernel, rfl⟩
theorem eX9_pass_68 : am_d cX9_pass 68 (.invokevirtual 210) 3 71 := ⟨by decide +kernel, rfl⟩
theorem eX9_pass_71 : am_d cX9_pass 71 (.iinc 3 1) 3 74 := ⟨by decide +kernel, rfl⟩
theorem eX9_pass_74 : am_b cX9_pass 74 (.goto (-23)) (-23) 77 51 := ⟨by decide +kernel, rfl, by decide⟩
theorem eX9_pass_77 : am_d cX9_pass 77 (.iconst 0) 1 78 := ⟨by decide +kernel, rfl⟩
theorem eX9_pass_78 : am_d cX9_pass 78 (.istore_n 3) 1 79 := ⟨by decide +kernel, rfl⟩
theorem eX9_pass_79 : am_d cX9_pass 79 (.iload_n 3) 1 80 := ⟨by decide +kernel, rfl⟩
theorem eX9_pass_80 : am_d cX9_pass 80 (.aload_n 0) 1 81 := ⟨by decide +kernel, rfl⟩
theorem eX9_pass_81 : am_d cX9_pass 81 (.getfield 126) 3 84 := ⟨by decide +kernel, rfl⟩
theorem eX9_pass_84 : am_b cX9_pass 84 (.if_icmp .ge 31) (31) 87 115 := ⟨by decide +kernel, rfl, by decide⟩
theorem eX9_pass_87 : am_d cX9_pass 87 (.aload_n 0) 1 88 := ⟨by decide +kernel, rfl⟩
theorem eX9_pass_88 : am_d cX9_pass 88 (.iload_n 3) 1 89 := ⟨by decide +kernel, rfl⟩
theorem eX9_pass_89 : am_d cX9_pass 89 (.iconst 1) 1 90 := ⟨by decide +kernel, rfl⟩
theorem eX9_pass_90 : am_d cX9_pass 90 (.iload_n 3) 1 91 := ⟨by decide +kernel, rfl⟩
theorem eX9_pass_91 : am_d cX9_pass 91 (.iconst 1) 1 92 := ⟨by decide +kernel, rfl⟩
theorem eX9_pass_92 : am_d cX9_pass 92 (.invokestatic 171) 3 95 := ⟨by decide +kernel, rfl⟩
theorem eX9_pass_95 : am_d cX9_pass 95 (.invokevirtual 213) 3 98 := ⟨by decide +kernel, rfl⟩
theorem eX9_pass_98 : am_d cX9_pass 98 (.aload_n 0) 1 99 := ⟨by decide +kernel, rfl⟩
theorem eX9_pass_99 : am_d cX9_pass 99 (.iload_n 3) 1 100 := ⟨by decide +kernel, rfl⟩
theorem eX9_pass_100 : am_d cX9_pass 100 (.iconst 0) 1 101 := ⟨by decide +kernel, rfl⟩
theorem eX9_pass_101 : am_d cX9_pass 101 (.iload_n 3) 1 102 := ⟨by decide +kernel, rfl⟩
theorem eX9_pass_102 : am_d cX9_pass 102 (.iconst 0) 1 103 := ⟨by decide +kernel, rfl⟩
theorem eX9_pass_103 : am_d cX9_pass 103 (.invokestatic 171) 3 106 := ⟨by decide +kernel, rfl⟩
theorem eX9_pass_106 : am_d cX9_pass 106 (.invokevirtual 213) 3 109 := ⟨by decide +kernel, rfl⟩
theorem eX9_pass_109 : am_d cX9_pass 109 (.iinc 3 1) 3 112 := ⟨by decide +kernel, rfl⟩
theorem eX9_pass_112 : am_b cX9_pass 112 (.goto (-33)) (-33) 115 79 := ⟨by decide +kernel, rfl, by decide⟩
theorem eX9_pass_115 : am_d cX9_pass 115 (.iinc 2 1) 3 118 := ⟨by decide +kernel, rfl⟩
theorem eX9_pass_118 : am_b cX9_pass 118 (.goto (-96)) (-96) 121 22 := ⟨by decide +kernel, rfl, by decide⟩
theorem eX9_pass_121 : am_d cX9_pass 121 (.aload_n 0) 1 122 := ⟨by decide +kernel, rfl⟩
theorem eX9_pass_122 : am_d cX9_pass 122 (.getfield 123) 3 125 := ⟨by decide +kernel, rfl⟩
theorem eX9_pass_125 : am_b cX9_pass 125 (.ifCond .le 7) (7) 128 132 := ⟨by decide +kernel, rfl, by decide⟩
theorem eX9_pass_128 : am_d cX9_pass 128 (.iconst 0) 1 129 := ⟨by decide +kernel, rfl⟩
theorem eX9_pass_129 : am_b cX9_pass 129 (.goto 7) (7) 132 136 := ⟨by decide +kernel, rfl, by decide⟩
theorem eX9_pass_132 : am_d cX9_pass 132 (.aload_n 0) 1 133 := ⟨by decide +kernel, rfl⟩
theorem eX9_pass_133 : am_d cX9_pass 133 (.getfield 7) 3 136 := ⟨by decide +kernel, rfl⟩
theorem eX9_pass_136 : am_d cX9_pass 136 (.ireturn) 1 137 := ⟨by decide +kernel, rfl⟩
theorem eX9_minute_0 : am_d cX9_minute 0 (.aload_n 0) 1 1 := ⟨by decide +kernel, rfl⟩
theorem eX9_minute_1 : am_d cX9_minute 1 (.iconst 0) 1 2 := ⟨by decide +kernel, rfl⟩
theorem eX9_minute_2 : am_d cX9_minute 2 (.putfield 123) 3 5 := ⟨by decide +kernel, rfl⟩
theorem eX9_minute_5 : am_d cX9_minute 5 (.aload_n 0) 1 6 := ⟨by decide +kernel, rfl⟩
theorem eX9_minute_6 : am_d cX9_minute 6 (.getfield 7) 3 9 := ⟨by decide +kernel, rfl⟩
theorem eX9_minute_9 : am_d cX9_minute 9 (.ireturn) 1 10 := ⟨by decide +kernel, rfl⟩
theorem eX9_towers_0 : am_d cX9_towers 0 (.aload_n 0) 1 1 := ⟨by decide +kernel, rfl⟩
theorem eX9_towers_1 : am_d cX9_towers 1 (.iconst 0) 1 2 := ⟨by decide +kernel, rfl⟩
theorem eX9_towers_2 : am_d cX9_towers 2 (.putfield 123) 3 5 := ⟨by decide +kernel, rfl⟩
theorem eX9_towers_5 : am_d cX9_towers 5 (.aload_n 0) 1 6 := ⟨by decide +kernel, rfl⟩
theorem eX9_towers_6 : am_d cX9_towers 6 (.getfield 126) 3 9 := ⟨by decide +kernel, rfl⟩
theorem eX9_towers_9 : am_d cX9_towers 9 (.ireturn) 1 10 := ⟨by decide +kernel, rfl⟩
theorem eX9_sees_0 : am_d cX9_sees 0 (.aload_n 0) 1 1 := ⟨by decide +kernel, rfl⟩
theorem eX9_sees_1 : am_d cX9_sees 1 (.aload_n 0) 1 2 := ⟨by decide +kernel, rfl⟩
theorem eX9_sees_2 : am_d cX9_sees 2 (.iload_n 1) 1 3 := ⟨by decide +kernel, rfl⟩
theorem eX9_sees_3 : am_d cX9_sees 3 (.invokevirtual 137) 3 6 := ⟨by decide +kernel, rfl⟩
theorem eX9_sees_6 : am_b cX9_sees 6 (.ifCond .eq 7) (7) 9 13 := ⟨by decide +kernel, rfl, by decide⟩
theorem eX9_sees_9 : am_d cX9_sees 9 (.iconst 0) 1 10 := ⟨by decide +kernel, rfl⟩
theorem eX9_sees_10 : am_b cX9_sees 10 (.goto 4) (4) 13 14 := ⟨by decide +kernel, rfl, by decide⟩
theorem eX9_sees_13 : am_d cX9_sees 13 (.iconst 1) 1 14 := ⟨by decide +kernel, rfl⟩
theorem eX9_sees_14 : am_d cX9_sees 14 (.putfield 123) 3 17 := ⟨by decide +kernel, rfl⟩
theorem eX9_sees_17 : am_d cX9_sees 17 (.aload_n 0) 1 18 := ⟨by decide +kernel, rfl⟩
theorem eX9_sees_18 : am_d cX9_sees 18 (.getfield 123) 3 21 := ⟨by decide +kernel, rfl⟩
theorem eX9_sees_21 : am_b cX9_sees 21 (.ifCond .ne 15) (15) 24 36 := ⟨by decide +kernel, rfl, by decide⟩
theorem eX9_sees_24 : am_d cX9_sees 24 (.aload_n 0) 1 25 := ⟨by decide +kernel, rfl⟩
theorem eX9_sees_25 : am_d cX9_sees 25 (.iload_n 1) 1 26 := ⟨by decide +kernel, rfl⟩
theorem eX9_sees_26 : am_d cX9_sees 26 (.invokevirtual 197) 3 29 := ⟨by decide +kernel, rfl⟩
theorem eX9_sees_29 : am_b cX9_sees 29 (.ifCond .eq 7) (7) 32 36 := ⟨by decide +kernel, rfl, by decide⟩
theorem eX9_sees_32 : am_d cX9_sees 32 (.iconst 1) 1 33 := ⟨by decide +kernel, rfl⟩
theorem eX9_sees_33 : am_b cX9_sees 33 (.goto 4) (4) 36 37 := ⟨by decide +kernel, rfl, by decide⟩
theorem eX9_sees_36 : am_d cX9_sees 36 (.iconst 0) 1 37 := ⟨by decide +kernel, rfl⟩
theorem eX9_sees_37 : am_d cX9_sees 37 (.ireturn) 1 38 := ⟨by decide +kernel, rfl⟩
theorem eX9_shows_0 : am_d cX9_shows 0 (.aload_n 0) 1 1 := ⟨by decide +kernel, rfl⟩
theorem eX9_shows_1 : am_d cX9_shows 1 (.aload_n 0) 1 2 := ⟨by decide +kernel, rfl⟩
theorem eX9_shows_2 : am_d cX9_shows 2 (.iload_n 1) 1 3 := ⟨by decide +kernel, rfl⟩
theorem eX9_shows_3 : am_d cX9_shows 3 (.invokevirtual 141) 3 6 := ⟨by decide +kernel, rfl⟩
theorem eX9_shows_6 : am_b cX9_shows 6 (.ifCond .eq 7) (7) 9 13 := ⟨by decide +kernel, rfl, by decide⟩
theorem eX9_shows_9 : am_d cX9_shows 9 (.iconst 0) 1 10 := ⟨by decide +kernel, rfl⟩
theorem eX9_shows_10 : am_b cX9_shows 10 (.goto 4) (4) 13 14 := ⟨by decide +kernel, rfl, by decide⟩
theorem eX9_shows_13 : am_d cX9_shows 13 (.iconst 1) 1 14 := ⟨by decide +kernel, rfl⟩
theorem eX9_shows_14 : am_d cX9_shows 14 (.putfield 123) 3 17 := ⟨by decide +kernel, rfl⟩
theorem eX9_shows_17 : am_d cX9_shows 17 (.aload_n 0) 1 18 := ⟨by decide +kernel, rfl⟩
theorem eX9_shows_18 : am_d cX9_shows 18 (.getfield 123) 3 21 := ⟨by decide +kernel, rfl⟩
theorem eX9_shows_21 : am_b cX9_shows 21 (.ifCond .le 7) (7) 24 28 := ⟨by decide +kernel, rfl, by decide⟩
theorem eX9_shows_24 : am_d cX9_shows 24 (.iconst 0) 1 25 := ⟨by decide +kernel, rfl⟩
theorem eX9_shows_25 : am_b cX9_shows 25 (.goto 13) (13) 28 38 := ⟨by decide +kernel, rfl, by decide⟩
theorem eX9_shows_28 : am_d cX9_shows 28 (.aload_n 0) 1 29 := ⟨by decide +kernel, rfl⟩
theorem eX9_shows_29 : am_d cX9_shows 29 (.getfield 44) 3 32 := ⟨by decide +kernel, rfl⟩
theorem eX9_shows_32 : am_d cX9_shows 32 (.iload_n 1) 1 33 := ⟨by decide +kernel, rfl⟩
theorem eX9_shows_33 : am_d cX9_shows 33 (.iload_n 2) 1 34 := ⟨by decide +kernel, rfl⟩
theorem eX9_shows_34 : am_d cX9_shows 34 (.invokestatic 171) 3 37 := ⟨by decide +kernel, rfl⟩
theorem eX9_shows_37 : am_d cX9_shows 37 (.iaload) 1 38 := ⟨by decide +kernel, rfl⟩
theorem eX9_shows_38 : am_d cX9_shows 38 (.ireturn) 1 39 := ⟨by decide +kernel, rfl⟩
theorem eX9_keeps_0 : am_d cX9_keeps 0 (.aload_n 0) 1 1 := ⟨by decide +kernel, rfl⟩
theorem eX9_keeps_1 : am_d cX9_keeps 1 (.aload_n 0) 1 2 := ⟨by decide +kernel, rfl⟩
theorem eX9_keeps_2 : am_d cX9_keeps 2 (.iload_n 1) 1 3 := ⟨by decide +kernel, rfl⟩
theorem eX9_keeps_3 : am_d cX9_keeps 3 (.invokevirtual 141) 3 6 := ⟨by decide +kernel, rfl⟩
theorem eX9_keeps_6 : am_b cX9_keeps 6 (.ifCond .eq 11) (11) 9 17 := ⟨by decide +kernel, rfl, by decide⟩
theorem eX9_keeps_9 : am_d cX9_keeps 9 (.iload_n 3) 1 10 := ⟨by decide +kernel, rfl⟩
theorem eX9_keeps_10 : am_b cX9_keeps 10 (.ifCond .lt 7) (7) 13 17 := ⟨by decide +kernel, rfl, by decide⟩
theorem eX9_keeps_13 : am_d cX9_keeps 13 (.iconst 0) 1 14 := ⟨by decide +kernel, rfl⟩
theorem eX9_keeps_14 : am_b cX9_keeps 14 (.goto 4) (4) 17 18 := ⟨by decide +kernel, rfl, by decide⟩
theorem eX9_keeps_17 : am_d cX9_keeps 17 (.iconst 1) 1 18 := ⟨by decide +kernel, rfl⟩
theorem eX9_keeps_18 : am_d cX9_keeps 18 (.putfield 123) 3 21 := ⟨by decide +kernel, rfl⟩
theorem eX9_keeps_21 : am_d cX9_keeps 21 (.aload_n 0) 1 22 := ⟨by decide +kernel, rfl⟩
theorem eX9_keeps_22 : am_d cX9_keeps 22 (.getfield 123) 3 25 := ⟨by decide +kernel, rfl⟩
theorem eX9_keeps_25 : am_b cX9_keeps 25 (.ifCond .le 5) (5) 28 30 := ⟨by decide +kernel, rfl, by decide⟩
theorem eX9_keeps_28 : am_d cX9_keeps 28 (.iconst 0) 1 29 := ⟨by decide +kernel, rfl⟩
theorem eX9_keeps_29 : am_d cX9_keeps 29 (.ireturn) 1 30 := ⟨by decide +kernel, rfl⟩
theorem eX9_keeps_30 : am_d cX9_keeps 30 (.iload_n 3) 1 31 := ⟨by decide +kernel, rfl⟩
theorem eX9_keeps_31 : am_d cX9_keeps 31 (.aload_n 0) 1 32 := ⟨by decide +kernel, rfl⟩
theorem eX9_keeps_32 : am_d cX9_keeps 32 (.getfield 35) 3 35 := ⟨by decide +kernel, rfl⟩
theorem eX9_keeps_35 : am_d cX9_keeps 35 (.iload_n 1) 1 36 := ⟨by decide +kernel, rfl⟩
theorem eX9_keeps_36 : am_d cX9_keeps 36 (.iload_n 2) 1 37 := ⟨by decide +kernel, rfl⟩
theorem eX9_keeps_37 : am_d cX9_keeps 37 (.invokestatic 171) 3 40 := ⟨by decide +kernel, rfl⟩
theorem eX9_keeps_40 : am_d cX9_keeps 40 (.iaload) 1 41 := ⟨by decide +kernel, rfl⟩
theorem eX9_keeps_41 : am_b cX9_keeps 41 (.if_icmp .ge 22) (22) 44 63 := ⟨by decide +kernel, rfl, by decide⟩
theorem eX9_keeps_44 : am_d cX9_keeps 44 (.aload_n 0) 1 45 := ⟨by decide +kernel, rfl⟩
theorem eX9_keeps_45 : am_d cX9_keeps 45 (.getfield 41) 3 48 := ⟨by decide +kernel, rfl⟩
theorem eX9_keeps_48 : am_d cX9_keeps 48 (.sipush 220) 3 51 := ⟨by decide +kernel, rfl⟩
theorem eX9_keeps_51 : am_d cX9_keeps 51 (.iload_n 1) 1 52 := ⟨by decide +kernel, rfl⟩
theorem eX9_keeps_52 : am_d cX9_keeps 52 (.iload_n 2) 1 53 := ⟨by decide +kernel, rfl⟩
theorem eX9_keeps_53 : am_d cX9_keeps 53 (.invokestatic 171) 3 56 := ⟨by decide +kernel, rfl⟩
theorem eX9_keeps_56 : am_d cX9_keeps 56 (.imul) 1 57 := ⟨by decide +kernel, rfl⟩
theorem eX9_keeps_57 : am_d cX9_keeps 57 (.iload_n 3) 1 58 := ⟨by decide +kernel, rfl⟩
theorem eX9_keeps_58 : am_d cX9_keeps 58 (.iadd) 1 59 := ⟨by decide +kernel, rfl⟩
theorem eX9_keeps_59 : am_d cX9_keeps 59 (.iaload) 1 60 := ⟨by decide +kernel, rfl⟩
theorem eX9_keeps_60 : am_b cX9_keeps 60 (.goto 4) (4) 63 64 := ⟨by decide +kernel, rfl, by decide⟩
theorem eX9_keeps_63 : am_d cX9_keeps 63 (.iconst (-1)) 1 64 := ⟨by decide +kernel, rfl⟩
theorem eX9_keeps_64 : am_d cX9_keeps 64 (.ireturn) 1 65 := ⟨by decide +kernel, rfl⟩
theorem eX9_logs_0 : am_d cX9_logs 0 (.aload_n 0) 1 1 := ⟨by decide +kernel, rfl⟩
theorem eX9_logs_1 : am_d cX9_logs 1 (.aload_n 0) 1 2 := ⟨by decide +kernel, rfl⟩
theorem eX9_logs_2 : am_d cX9_logs 2 (.iload_n 1) 1 3 := ⟨by decide +kernel, rfl⟩
theorem eX9_logs_3 : am_d cX9_logs 3 (.invokevirtual 141) 3 6 := ⟨by decide +kernel, rfl⟩
theorem eX9_logs_6 : am_b cX9_logs 6 (.ifCond .eq 7) (7) 9 13 := ⟨by decide +kernel, rfl, by decide⟩
theorem eX9_logs_9 : am_d cX9_logs 9 (.iconst 0) 1 10 := ⟨by decide +kernel, rfl⟩
theorem eX9_logs_10 : am_b cX9_logs 10 (.goto 4) (4) 13 14 := ⟨by decide +kernel, rfl, by decide⟩
theorem eX9_logs_13 : am_d cX9_logs 13 (.iconst 1) 1 14 := ⟨by decide +kernel, rfl⟩
theorem eX9_logs_14 : am_d cX9_logs 14 (.putfield 123) 3 17 := ⟨by decide +kernel, rfl⟩
theorem eX9_logs_17 : am_d cX9_logs 17 (.aload_n 0) 1 18 := ⟨by decide +kernel, rfl⟩
theorem eX9_logs_18 : am_d cX9_logs 18 (.getfield 123) 3 21 := ⟨by decide +kernel, rfl⟩
theorem eX9_logs_21 : am_b cX9_logs 21 (.ifCond .le 7) (7) 24 28 := ⟨by decide +kernel, rfl, by decide⟩
theorem eX9_logs_24 : am_d cX9_logs 24 (.iconst 0) 1 25 := ⟨by decide +kernel, rfl⟩
theorem eX9_logs_25 : am_b cX9_logs 25 (.goto 13) (13) 28 38 := ⟨by decide +kernel, rfl, by decide⟩
theorem eX9_logs_28 : am_d cX9_logs 28 (.aload_n 0) 1 29 := ⟨by decide +kernel, rfl⟩
theorem eX9_logs_29 : am_d cX9_logs 29 (.getfield 51) 3 32 := ⟨by decide +kernel, rfl⟩
theorem eX9_logs_32 : am_d cX9_logs 32 (.iload_n 1) 1 33 := ⟨by decide +kernel, rfl⟩
theorem eX9_logs_33 : am_d cX9_logs 33 (.iload_n 2) 1 34 := ⟨by decide +kernel, rfl⟩
theorem eX9_logs_34 : am_d cX9_logs 34 (.invokestatic 171) 3 37 := ⟨by decide +kernel, rfl⟩
theorem eX9_logs_37 : am_d cX9_logs 37 (.iaload) 1 38 := ⟨by decide +kernel, rfl⟩
theorem eX9_logs_38 : am_d cX9_logs 38 (.ireturn) 1 39 := ⟨by decide +kernel, rfl⟩
theorem eX9_log_0 : am_d cX9_log 0 (.aload_n 0) 1 1 := ⟨by decide +kernel, rfl⟩
theorem eX9_log_1 : am_d cX9_log 1 (.aload_n 0) 1 2 := ⟨by decide +kernel, rfl⟩
theorem eX9_log_2 : am_d cX9_log 2 (.iload_n 1) 1 3 := ⟨by decide +kernel, rfl⟩
theorem eX9_log_3 : am_d cX9_log 3 (.invokevirtual 141) 3 6 := ⟨by decide +kernel, rfl⟩
theorem eX9_log_6 : am_b cX9_log 6 (.ifCond .eq 7) (7) 9 13 := ⟨by decide +kernel, rfl, by decide⟩
theorem eX9_log_9 : am_d cX9_log 9 (.iload_n 3) 1 10 := ⟨by decide +kernel, rfl⟩
theorem eX9_log_10 : am_b cX9_log 10 (.ifCond .ge 7) (7) 13 17 := ⟨by decide +kernel, rfl, by decide⟩
theorem eX9_log_13 : am_d cX9_log 13 (.iconst 1) 1 14 := ⟨by decide +kernel, rfl⟩
theorem eX9_log_14 : am_b cX9_log 14 (.goto 18) (18) 17 32 := ⟨by decide +kernel, rfl, by decide⟩
theorem eX9_log_17 : am_d cX9_log 17 (.iload 4) 2 19 := ⟨by decide +kernel, rfl⟩
theorem eX9_log_19 : am_d cX9_log 19 (.iconst 0) 1 20 := ⟨by decide +kernel, rfl⟩
theorem eX9_log_20 : am_d cX9_log 20 (.iconst 2) 1 21 := ⟨by decide +kernel, rfl⟩
theorem eX9_log_21 : am_d cX9_log 21 (.invokestatic 129) 3 24 := ⟨by decide +kernel, rfl⟩
theorem eX9_log_24 : am_b cX9_log 24 (.ifCond .eq 7) (7) 27 31 := ⟨by decide +kernel, rfl, by decide⟩
theorem eX9_log_27 : am_d cX9_log 27 (.iconst 0) 1 28 := ⟨by decide +kernel, rfl⟩
theorem eX9_log_28 : am_b cX9_log 28 (.goto 4) (4) 31 32 := ⟨by decide +kernel, rfl, by decide⟩
theorem eX9_log_31 : am_d cX9_log 31 (.iconst 2) 1 32 := ⟨by decide +kernel, rfl⟩
theorem eX9_log_32 : am_d cX9_log 32 (.putfield 123) 3 35 := ⟨by decide +kernel, rfl⟩
theorem eX9_log_35 : am_d cX9_log 35 (.aload_n 0) 1 36 := ⟨by decide +kernel, rfl⟩
theorem eX9_log_36 : am_d cX9_log 36 (.getfield 123) 3 39 := ⟨by decide +kernel, rfl⟩
theorem eX9_log_39 : am_b cX9_log 39 (.ifCond .le 5) (5) 42 44 := ⟨by decide +kernel, rfl, by decide⟩
theorem eX9_log_42 : am_d cX9_log 42 (.iconst 0) 1 43 := ⟨by decide +kernel, rfl⟩
theorem eX9_log_43 : am_d cX9_log 43 (.ireturn) 1 44 := ⟨by decide +kernel, rfl⟩
theorem eX9_log_44 : am_d cX9_log 44 (.iload_n 3) 1 45 := ⟨by decide +kernel, rfl⟩
theorem eX9_log_45 : am_d cX9_log 45 (.aload_n 0) 1 46 := ⟨by decide +kernel, rfl⟩
theorem eX9_log_46 : am_d cX9_log 46 (.getfield 51) 3 49 := ⟨by decide +kernel, rfl⟩
theorem eX9_log_49 : am_d cX9_log 49 (.iload_n 1) 1 50 := ⟨by decide +kernel, rfl⟩
theorem eX9_log_50 : am_d cX9_log 50 (.iload_n 2) 1 51 := ⟨by decide +kernel, rfl⟩
theorem eX9_log_51 : am_d cX9_log 51 (.invokestatic 171) 3 54 := ⟨by decide +kernel, rfl⟩
theorem eX9_log_54 : am_d cX9_log 54 (.iaload) 1 55 := ⟨by decide +kernel, rfl⟩
theorem eX9_log_55 : am_b cX9_log 55 (.if_icmp .lt 5) (5) 58 60 := ⟨by decide +kernel, rfl, by decide⟩
theorem eX9_log_58 : am_d cX9_log 58 (.iconst (-1)) 1 59 := ⟨by decide +kernel, rfl⟩
theorem eX9_log_59 : am_d cX9_log 59 (.ireturn) 1 60 := ⟨by decide +kernel, rfl⟩
theorem eX9_log_60 : am_d cX9_log 60 (.sipush 300) 3 63 := ⟨by decide +kernel, rfl⟩
theorem eX9_log_63 : am_d cX9_log 63 (.iload_n 1) 1 64 := ⟨by decide +kernel, rfl⟩
theorem eX9_log_64 : am_d cX9_log 64 (.iload_n 2) 1 65 := ⟨by decide +kernel, rfl⟩
theorem eX9_log_65 : am_d cX9_log 65 (.invokestatic 171) 3 68 := ⟨by decide +kernel, rfl⟩
theorem eX9_log_68 : am_d cX9_log 68 (.imul) 1 69 := ⟨by decide +kernel, rfl⟩
theorem eX9_log_69 : am_d cX9_log 69 (.iload_n 3) 1 70 := ⟨by decide +kernel, rfl⟩
theorem eX9_log_70 : am_d cX9_log 70 (.iadd) 1 71 := ⟨by decide +kernel, rfl⟩
theorem eX9_log_71 : am_d cX9_log 71 (.istore 5) 2 73 := ⟨by decide +kernel, rfl⟩
theorem eX9_log_73 : am_d cX9_log 73 (.iload 4) 2 75 := ⟨by decide +kernel, rfl⟩
theorem eX9_log_75 : am_b cX9_log 75 (.ifCond .ne 13) (13) 78 88 := ⟨by decide +kernel, rfl, by decide⟩
theorem eX9_log_78 : am_d cX9_log 78 (.aload_n 0) 1 79 := ⟨by decide +kernel, rfl⟩
theorem eX9_log_79 : am_d cX9_log 79 (.getfield 54) 3 82 := ⟨by decide +kernel, rfl⟩
theorem eX9_log_82 : am_d cX9_log 82 (.iload 5) 2 84 := ⟨by decide +kernel, rfl⟩
theorem eX9_log_84 : am_d cX9_log 84 (.iaload) 1 85 := ⟨by decide +kernel, rfl⟩
theorem eX9_log_85 : am_b cX9_log 85 (.goto 34) (34) 88 119 := ⟨by decide +kernel, rfl, by decide⟩
theorem eX9_log_88 : am_d cX9_log 88 (.iload 4) 2 90 := ⟨by decide +kernel, rfl⟩
theorem eX9_log_90 : am_d cX9_log 90 (.iconst 1) 1 91 := ⟨by decide +kernel, rfl⟩
theorem eX9_log_91 : am_b cX9_log 91 (.if_icmp .ne 13) (13) 94 104 := ⟨by decide +kernel, rfl, by decide⟩
theorem eX9_log_94 : am_d cX9_log 94 (.aload_n 0) 1 95 := ⟨by decide +kernel, rfl⟩
theorem eX9_log_95 : am_d cX9_log 95 (.getfield 57) 3 98 := ⟨by decide +kernel, rfl⟩
theorem eX9_log_98 : am_d cX9_log 98 (.iload 5) 2 100 := ⟨by decide +kernel, rfl⟩
theorem eX9_log_100 : am_d cX9_log 100 (.iaload) 1 101 := ⟨by decide +kernel, rfl⟩
theorem eX9_log_101 : am_b cX9_log 101 (.goto 18) (18) 104 119 := ⟨by decide +kernel, rfl, by decide⟩
theorem eX9_log_104 : am_d cX9_log 104 (.aload_n 0) 1 105 := ⟨by decide +kernel, rfl⟩
theorem eX9_log_105 : am_d cX9_log 105 (.getfield 60) 3 108 := ⟨by decide +kernel, rfl⟩
theorem eX9_log_108 : am_d cX9_log 108 (.iload 5) 2 110 := ⟨by decide +kernel, rfl⟩
theorem eX9_log_110 : am_d cX9_log 110 (.baload) 1 111 := ⟨by decide +kernel, rfl⟩
theorem eX9_log_111 : am_b cX9_log 111 (.ifCond .eq 7) (7) 114 118 := ⟨by decide +kernel, rfl, by decide⟩
theorem eX9_log_114 : am_d cX9_log 114 (.iconst 1) 1 115 := ⟨by decide +kernel, rfl⟩
theorem eX9_log_115 : am_b cX9_log 115 (.goto 4) (4) 118 119 := ⟨by decide +kernel, rfl, by decide⟩
theorem eX9_log_118 : am_d cX9_log 118 (.iconst 0) 1 119 := ⟨by decide +kernel, rfl⟩
theorem eX9_log_119 : am_d cX9_log 119 (.ireturn) 1 120 := ⟨by decide +kernel, rfl⟩
theorem eX9_nextRead_0 : am_d cX9_nextRead 0 (.iload_n 2) 1 1 := ⟨by decide +kernel, rfl⟩
theorem eX9_nextRead_1 : am_d cX9_nextRead 1 (.istore_n 3) 1 2 := ⟨by decide +kernel, rfl⟩
theorem eX9_nextRead_2 : am_d cX9_nextRead 2 (.iload_n 3) 1 3 := ⟨by decide +kernel, rfl⟩
theorem eX9_nextRead_3 : am_d cX9_nextRead 3 (.aload_n 0) 1 4 := ⟨by decide +kernel, rfl⟩
theorem eX9_nextRead_4 : am_d cX9_nextRead 4 (.getfield 51) 3 7 := ⟨by decide +kernel, rfl⟩
theorem eX9_nextRead_7 : am_d cX9_nextRead 7 (.iload_n 1) 1 8 := ⟨by decide +kernel, rfl⟩
theorem eX9_nextRead_8 : am_d cX9_nextRead 8 (.iaload) 1 9 := ⟨by decide +kernel, rfl⟩
theorem eX9_nextRead_9 : am_b cX9_nextRead 9 (.if_icmp .ge 24) (24) 12 33 := ⟨by decide +kernel, rfl, by decide⟩
theorem eX9_nextRead_12 : am_d cX9_nextRead 12 (.aload_n 0) 1 13 := ⟨by decide +kernel, rfl⟩
theorem eX9_nextRead_13 : am_d cX9_nextRead 13 (.getfield 60) 3 16 := ⟨by decide +kernel, rfl⟩
theorem eX9_nextRead_16 : am_d cX9_nextRead 16 (.sipush 300) 3 19 := ⟨by decide +kernel, rfl⟩
theorem eX9_nextRead_19 : am_d cX9_nextRead 19 (.iload_n 1) 1 20 := ⟨by decide +kernel, rfl⟩
theorem eX9_nextRead_20 : am_d cX9_nextRead 20 (.imul) 1 21 := ⟨by decide +kernel, rfl⟩
theorem eX9_nextRead_21 : am_d cX9_nextRead 21 (.iload_n 3) 1 22 := ⟨by decide +kernel, rfl⟩
theorem eX9_nextRead_22 : am_d cX9_nextRead 22 (.iadd) 1 23 := ⟨by decide +kernel, rfl⟩
theorem eX9_nextRead_23 : am_d cX9_nextRead 23 (.baload) 1 24 := ⟨by decide +kernel, rfl⟩
theorem eX9_nextRead_24 : am_b cX9_nextRead 24 (.ifCond .eq 9) (9) 27 33 := ⟨by decide +kernel, rfl, by decide⟩
theorem eX9_nextRead_27 : am_d cX9_nextRead 27 (.iinc 3 1) 3 30 := ⟨by decide +kernel, rfl⟩
theorem eX9_nextRead_30 : am_b cX9_nextRead 30 (.goto (-28)) (-28) 33 2 := ⟨by decide +kernel, rfl, by decide⟩
theorem eX9_nextRead_33 : am_d cX9_nextRead 33 (.iload_n 3) 1 34 := ⟨by decide +kernel, rfl⟩
theorem eX9_nextRead_34 : am_d cX9_nextRead 34 (.ireturn) 1 35 := ⟨by decide +kernel, rfl⟩
theorem eX9_differs_0 : am_d cX9_differs 0 (.aload_n 0) 1 1 := ⟨by decide +kernel, rfl⟩
theorem eX9_differs_1 : am_d cX9_differs 1 (.aload_n 0) 1 2 := ⟨by decide +kernel, rfl⟩
theorem eX9_differs_2 : am_d cX9_differs 2 (.iload_n 1) 1 3 := ⟨by decide +kernel, rfl⟩
theorem eX9_differs_3 : am_d cX9_differs 3 (.invokevirtual 141) 3 6 := ⟨by decide +kernel, rfl⟩
theorem eX9_differs_6 : am_b cX9_differs 6 (.ifCond .eq 15) (15) 9 21 := ⟨by decide +kernel, rfl, by decide⟩
theorem eX9_differs_9 : am_d cX9_differs 9 (.aload_n 0) 1 10 := ⟨by decide +kernel, rfl⟩
theorem eX9_differs_10 : am_d cX9_differs 10 (.iload_n 2) 1 11 := ⟨by decide +kernel, rfl⟩
theorem eX9_differs_11 : am_d cX9_differs 11 (.invokevirtual 141) 3 14 := ⟨by decide +kernel, rfl⟩
theorem eX9_differs_14 : am_b cX9_differs 14 (.ifCond .eq 7) (7) 17 21 := ⟨by decide +kernel, rfl, by decide⟩
theorem eX9_differs_17 : am_d cX9_differs 17 (.iconst 0) 1 18 := ⟨by decide +kernel, rfl⟩
theorem eX9_differs_18 : am_b cX9_differs 18 (.goto 4) (4) 21 22 := ⟨by decide +kernel, rfl, by decide⟩
theorem eX9_differs_21 : am_d cX9_differs 21 (.iconst 1) 1 22 := ⟨by decide +kernel, rfl⟩
theorem eX9_differs_22 : am_d cX9_differs 22 (.putfield 123) 3 25 := ⟨by decide +kernel, rfl⟩
theorem eX9_differs_25 : am_d cX9_differs 25 (.aload_n 0) 1 26 := ⟨by decide +kernel, rfl⟩
theorem eX9_differs_26 : am_d cX9_differs 26 (.getfield 123) 3 29 := ⟨by decide +kernel, rfl⟩
theorem eX9_differs_29 : am_b cX9_differs 29 (.ifCond .le 5) (5) 32 34 := ⟨by decide +kernel, rfl, by decide⟩
theorem eX9_differs_32 : am_d cX9_differs 32 (.iconst 0) 1 33 := ⟨by decide +kernel, rfl⟩
theorem eX9_differs_33 : am_d cX9_differs 33 (.ireturn) 1 34 := ⟨by decide +kernel, rfl⟩
theorem eX9_differs_34 : am_d cX9_differs 34 (.iload_n 1) 1 35 := ⟨by decide +kernel, rfl⟩
theorem eX9_differs_35 : am_d cX9_differs 35 (.iload_n 3) 1 36 := ⟨by decide +kernel, rfl⟩
theorem eX9_differs_36 : am_d cX9_differs 36 (.invokestatic 171) 3 39 := ⟨by decide +kernel, rfl⟩
theorem eX9_differs_39 : am_d cX9_differs 39 (.istore 4) 2 41 := ⟨by decide +kernel, rfl⟩
theorem eX9_differs_41 : am_d cX9_differs 41 (.iload_n 2) 1 42 := ⟨by decide +kernel, rfl⟩
theorem eX9_differs_42 : am_d cX9_differs 42 (.iload_n 3) 1 43 := ⟨by decide +kernel, rfl⟩
theorem eX9_differs_43 : am_d cX9_differs 43 (.invokestatic 171) 3 46 := ⟨by decide +kernel, rfl⟩
theorem eX9_differs_46 : am_d cX9_differs 46 (.istore 5) 2 48 := ⟨by decide +kernel, rfl⟩
theorem eX9_differs_48 : am_d cX9_differs 48 (.aload_n 0) 1 49 := ⟨by decide +kernel, rfl⟩
theorem eX9_differs_49 : am_d cX9_differs 49 (.iload 4) 2 51 := ⟨by decide +kernel, rfl⟩
theorem eX9_differs_51 : am_d cX9_differs 51 (.iconst 0) 1 52 := ⟨by decide +kernel, rfl⟩
theorem eX9_differs_52 : am_d cX9_differs 52 (.invokevirtual 217) 3 55 := ⟨by decide +kernel, rfl⟩
theorem eX9_differs_55 : am_d cX9_differs 55 (.istore 6) 2 57 := ⟨by decide +kernel, rfl⟩
theorem eX9_differs_57 : am_d cX9_differs 57 (.aload_n 0) 1 58 := ⟨by decide +kernel, rfl⟩
theorem eX9_differs_58 : am_d cX9_differs 58 (.iload 5) 2 60 := ⟨by decide +kernel, rfl⟩
theorem eX9_differs_60 : am_d cX9_differs 60 (.iconst 0) 1 61 := ⟨by decide +kernel, rfl⟩
theorem eX9_differs_61 : am_d cX9_differs 61 (.invokevirtual 217) 3 64 := ⟨by decide +kernel, rfl⟩
theorem eX9_differs_64 : am_d cX9_differs 64 (.istore 7) 2 66 := ⟨by decide +kernel, rfl⟩
theorem eX9_differs_66 : am_d cX9_differs 66 (.iconst 0) 1 67 := ⟨by decide +kernel, rfl⟩
theorem eX9_differs_67 : am_d cX9_differs 67 (.istore 8) 2 69 := ⟨by decide +kernel, rfl⟩
theorem eX9_differs_69 : am_d cX9_differs 69 (.iload 6) 2 71 := ⟨by decide +kernel, rfl⟩
theorem eX9_differs_71 : am_d cX9_differs 71 (.aload_n 0) 1 72 := ⟨by decide +kernel, rfl⟩
theorem eX9_differs_72 : am_d cX9_differs 72 (.getfield 51) 3 75 := ⟨by decide +kernel, rfl⟩
theorem eX9_differs_75 : am_d cX9_differs 75 (.iload 4) 2 77 := ⟨by decide +kernel, rfl⟩
theorem eX9_differs_77 : am_d cX9_differs 77 (.iaload) 1 78 := ⟨by decide +kernel, rfl⟩
theorem eX9_differs_78 : am_b cX9_differs 78 (.if_icmp .ge 79) (79) 81 157 := ⟨by decide +kernel, rfl, by decide⟩
theorem eX9_differs_81 : am_d cX9_differs 81 (.iload 7) 2 83 := ⟨by decide +kernel, rfl⟩
theorem eX9_differs_83 : am_d cX9_differs 83 (.aload_n 0) 1 84 := ⟨by decide +kernel, rfl⟩
theorem eX9_differs_84 : am_d cX9_differs 84 (.getfield 51) 3 87 := ⟨by decide +kernel, rfl⟩
theorem eX9_differs_87 : am_d cX9_differs 87 (.iload 5) 2 89 := ⟨by decide +kernel, rfl⟩
theorem eX9_differs_89 : am_d cX9_differs 89 (.iaload) 1 90 := ⟨by decide +kernel, rfl⟩
theorem eX9_differs_90 : am_b cX9_differs 90 (.if_icmp .ge 67) (67) 93 157 := ⟨by decide +kernel, rfl, by decide⟩
theorem eX9_differs_93 : am_d cX9_differs 93 (.aload_n 0) 1 94 := ⟨by decide +kernel, rfl⟩
theorem eX9_differs_94 : am_d cX9_differs 94 (.getfield 57) 3 97 := ⟨by decide +kernel, rfl⟩
theorem eX9_differs_97 : am_d cX9_differs 97 (.sipush 300) 3 100 := ⟨by decide +kernel, rfl⟩
theorem eX9_differs_100 : am_d cX9_differs 100 (.iload 4) 2 102 := ⟨by decide +kernel, rfl⟩
theorem eX9_differs_102 : am_d cX9_differs 102 (.imul) 1 103 := ⟨by decide +kernel, rfl⟩
theorem eX9_differs_103 : am_d cX9_differs 103 (.iload 6) 2 105 := ⟨by decide +kernel, rfl⟩
theorem eX9_differs_105 : am_d cX9_differs 105 (.iadd) 1 106 := ⟨by decide +kernel, rfl⟩
theorem eX9_differs_106 : am_d cX9_differs 106 (.iaload) 1 107 := ⟨by decide +kernel, rfl⟩
theorem eX9_differs_107 : am_d cX9_differs 107 (.aload_n 0) 1 108 := ⟨by decide +kernel, rfl⟩
theorem eX9_differs_108 : am_d cX9_differs 108 (.getfield 57) 3 111 := ⟨by decide +kernel, rfl⟩
theorem eX9_differs_111 : am_d cX9_differs 111 (.sipush 300) 3 114 := ⟨by decide +kernel, rfl⟩
theorem eX9_differs_114 : am_d cX9_differs 114 (.iload 5) 2 116 := ⟨by decide +kernel, rfl⟩
theorem eX9_differs_116 : am_d cX9_differs 116 (.imul) 1 117 := ⟨by decide +kernel, rfl⟩
theorem eX9_differs_117 : am_d cX9_differs 117 (.iload 7) 2 119 := ⟨by decide +kernel, rfl⟩
theorem eX9_differs_119 : am_d cX9_differs 119 (.iadd) 1 120 := ⟨by decide +kernel, rfl⟩
theorem eX9_differs_120 : am_d cX9_differs 120 (.iaload) 1 121 := ⟨by decide +kernel, rfl⟩
theorem eX9_differs_121 : am_b cX9_differs 121 (.if_icmp .eq 6) (6) 124 127 := ⟨by decide +kernel, rfl, by decide⟩
theorem eX9_differs_124 : am_d cX9_differs 124 (.iload 8) 2 126 := ⟨by decide +kernel, rfl⟩
theorem eX9_differs_126 : am_d cX9_differs 126 (.ireturn) 1 127 := ⟨by decide +kernel, rfl⟩
theorem eX9_differs_127 : am_d cX9_differs 127 (.aload_n 0) 1 128 := ⟨by decide +kernel, rfl⟩
theorem eX9_differs_128 : am_d cX9_differs 128 (.iload 4) 2 130 := ⟨by decide +kernel, rfl⟩
theorem eX9_differs_130 : am_d cX9_differs 130 (.iload 6) 2 132 := ⟨by decide +kernel, rfl⟩
theorem eX9_differs_132 : am_d cX9_differs 132 (.iconst 1) 1 133 := ⟨by decide +kernel, rfl⟩
theorem eX9_differs_133 : am_d cX9_differs 133 (.iadd) 1 134 := ⟨by decide +kernel, rfl⟩
theorem eX9_differs_134 : am_d cX9_differs 134 (.invokevirtual 217) 3 137 := ⟨by decide +kernel, rfl⟩
theorem eX9_differs_137 : am_d cX9_differs 137 (.istore 6) 2 139 := ⟨by decide +kernel, rfl⟩
theorem eX9_differs_139 : am_d cX9_differs 139 (.aload_n 0) 1 140 := ⟨by decide +kernel, rfl⟩
theorem eX9_differs_140 : am_d cX9_differs 140 (.iload 5) 2 142 := ⟨by decide +kernel, rfl⟩
theorem eX9_differs_142 : am_d cX9_differs 142 (.iload 7) 2 144 := ⟨by decide +kernel, rfl⟩
theorem eX9_differs_144 : am_d cX9_differs 144 (.iconst 1) 1 145 := ⟨by decide +kernel, rfl⟩
theorem eX9_differs_145 : am_d cX9_differs 145 (.iadd) 1 146 := ⟨by decide +kernel, rfl⟩
theorem eX9_differs_146 : am_d cX9_differs 146 (.invokevirtual 217) 3 149 := ⟨by decide +kernel, rfl⟩
theorem eX9_differs_149 : am_d cX9_differs 149 (.istore 7) 2 151 := ⟨by decide +kernel, rfl⟩
theorem eX9_differs_151 : am_d cX9_differs 151 (.iinc 8 1) 3 154 := ⟨by decide +kernel, rfl⟩
theorem eX9_differs_154 : am_b cX9_differs 154 (.goto (-85)) (-85) 157 69 := ⟨by decide +kernel, rfl, by decide⟩
theorem eX9_differs_157 : am_d cX9_differs 157 (.iconst (-1)) 1 158 := ⟨by decide +kernel, rfl⟩
theorem eX9_differs_158 : am_d cX9_differs 158 (.ireturn) 1 159 := ⟨by decide +kernel, rfl⟩
theorem eX9_came_0 : am_d cX9_came 0 (.aload_n 0) 1 1 := ⟨by decide +kernel, rfl⟩
theorem eX9_came_1 : am_d cX9_came 1 (.iconst 0) 1 2 := ⟨by decide +kernel, rfl⟩
theorem eX9_came_2 : am_d cX9_came 2 (.putfield 123) 3 5 := ⟨by decide +kernel, rfl⟩
theorem eX9_came_5 : am_d cX9_came 5 (.aload_n 0) 1 6 := ⟨by decide +kernel, rfl⟩
theorem eX9_came_6 : am_d cX9_came 6 (.getfield 96) 3 9 := ⟨by decide +kernel, rfl⟩
theorem eX9_came_9 : am_d cX9_came 9 (.iload_n 1) 1 10 := ⟨by decide +kernel, rfl⟩
theorem eX9_came_10 : am_b cX9_came 10 (.ifCond .eq 7) (7) 13 17 := ⟨by decide +kernel, rfl, by decide⟩
theorem eX9_came_13 : am_d cX9_came 13 (.iconst 1) 1 14 := ⟨by decide +kernel, rfl⟩
theorem eX9_came_14 : am_b cX9_came 14 (.goto 4) (4) 17 18 := ⟨by decide +kernel, rfl, by decide⟩
theorem eX9_came_17 : am_d cX9_came 17 (.iconst 0) 1 18 := ⟨by decide +kernel, rfl⟩
theorem eX9_came_18 : am_d cX9_came 18 (.iaload) 1 19 := ⟨by decide +kernel, rfl⟩
theorem eX9_came_19 : am_d cX9_came 19 (.ireturn) 1 20 := ⟨by decide +kernel, rfl⟩
theorem eX9_told_0 : am_d cX9_told 0 (.iload_n 1) 1 1 := ⟨by decide +kernel, rfl⟩
theorem eX9_told_1 : am_b cX9_told 1 (.ifCond .eq 7) (7) 4 8 := ⟨by decide +kernel, rfl, by decide⟩
theorem eX9_told_4 : am_d cX9_told 4 (.iconst 1) 1 5 := ⟨by decide +kernel, rfl⟩
theorem eX9_told_5 : am_b cX9_told 5 (.goto 4) (4) 8 9 := ⟨by decide +kernel, rfl, by decide⟩
theorem eX9_told_8 : am_d cX9_told 8 (.iconst 0) 1 9 := ⟨by decide +kernel, rfl⟩
theorem eX9_told_9 : am_d cX9_told 9 (.istore 4) 2 11 := ⟨by decide +kernel, rfl⟩
theorem eX9_told_11 : am_d cX9_told 11 (.aload_n 0) 1 12 := ⟨by decide +kernel, rfl⟩
theorem eX9_told_12 : am_d cX9_told 12 (.iload_n 2) 1 13 := ⟨by decide +kernel, rfl⟩
theorem eX9_told_13 : am_d cX9_told 13 (.iconst 0) 1 14 := ⟨by decide +kernel, rfl⟩
theorem eX9_told_14 : am_d cX9_told 14 (.aload_n 0) 1 15 := ⟨by decide +kernel, rfl⟩
theorem eX9_told_15 : am_d cX9_told 15 (.getfield 96) 3 18 := ⟨by decide +kernel, rfl⟩
theorem eX9_told_18 : am_d cX9_told 18 (.iload 4) 2 20 := ⟨by decide +kernel, rfl⟩
theorem eX9_told_20 : am_d cX9_told 20 (.iaload) 1 21 := ⟨by decide +kernel, rfl⟩
theorem eX9_told_21 : am_d cX9_told 21 (.iconst 1) 1 22 := ⟨by decide +kernel, rfl⟩
theorem eX9_told_22 : am_d cX9_told 22 (.isub) 1 23 := ⟨by decide +kernel, rfl⟩
theorem eX9_told_23 : am_d cX9_told 23 (.invokestatic 129) 3 26 := ⟨by decide +kernel, rfl⟩
theorem eX9_told_26 : am_b cX9_told 26 (.ifCond .ne 7) (7) 29 33 := ⟨by decide +kernel, rfl, by decide⟩
theorem eX9_told_29 : am_d cX9_told 29 (.iconst 1) 1 30 := ⟨by decide +kernel, rfl⟩
theorem eX9_told_30 : am_b cX9_told 30 (.goto 17) (17) 33 47 := ⟨by decide +kernel, rfl, by decide⟩
theorem eX9_told_33 : am_d cX9_told 33 (.iload_n 3) 1 34 := ⟨by decide +kernel, rfl⟩
theorem eX9_told_34 : am_d cX9_told 34 (.iconst 0) 1 35 := ⟨by decide +kernel, rfl⟩
theorem eX9_told_35 : am_d cX9_told 35 (.iconst 3) 1 36 := ⟨by decide +kernel, rfl⟩
theorem eX9_told_36 : am_d cX9_told 36 (.invokestatic 129) 3 39 := ⟨by decide +kernel, rfl⟩
theorem eX9_told_39 : am_b cX9_told 39 (.ifCond .eq 7) (7) 42 46 := ⟨by decide +kernel, rfl, by decide⟩
theorem eX9_told_42 : am_d cX9_told 42 (.iconst 0) 1 43 := ⟨by decide +kernel, rfl⟩
theorem eX9_told_43 : am_b cX9_told 43 (.goto 4) (4) 46 47 := ⟨by decide +kernel, rfl, by decide⟩
theorem eX9_told_46 : am_d cX9_told 46 (.iconst 2) 1 47 := ⟨by decide +kernel, rfl⟩
theorem eX9_told_47 : am_d cX9_told 47 (.putfield 123) 3 50 := ⟨by decide +kernel, rfl⟩
theorem eX9_told_50 : am_d cX9_told 50 (.aload_n 0) 1 51 := ⟨by decide +kernel, rfl⟩
theorem eX9_told_51 : am_d cX9_told 51 (.getfield 123) 3 54 := ⟨by decide +kernel, rfl⟩
theorem eX9_told_54 : am_b cX9_told 54 (.ifCond .le 5) (5) 57 59 := ⟨by decide +kernel, rfl, by decide⟩
theorem eX9_told_57 : am_d cX9_told 57 (.iconst 0) 1 58 := ⟨by decide +kernel, rfl⟩
theorem eX9_told_58 : am_d cX9_told 58 (.ireturn) 1 59 := ⟨by decide +kernel, rfl⟩
theorem eX9_told_59 : am_d cX9_told 59 (.bipush 40) 2 61 := ⟨by decide +kernel, rfl⟩
theorem eX9_told_61 : am_d cX9_told 61 (.iload 4) 2 63 := ⟨by decide +kernel, rfl⟩
theorem eX9_told_63 : am_d cX9_told 63 (.imul) 1 64 := ⟨by decide +kernel, rfl⟩
theorem eX9_told_64 : am_d cX9_told 64 (.iload_n 2) 1 65 := ⟨by decide +kernel, rfl⟩
theorem eX9_told_65 : am_d cX9_told 65 (.iadd) 1 66 := ⟨by decide +kernel, rfl⟩
theorem eX9_told_66 : am_d cX9_told 66 (.istore 5) 2 68 := ⟨by decide +kernel, rfl⟩
theorem eX9_told_68 : am_d cX9_told 68 (.iload_n 3) 1 69 := ⟨by decide +kernel, rfl⟩
theorem eX9_told_69 : am_b cX9_told 69 (.ifCond .ne 13) (13) 72 82 := ⟨by decide +kernel, rfl, by decide⟩
theorem eX9_told_72 : am_d cX9_told 72 (.aload_n 0) 1 73 := ⟨by decide +kernel, rfl⟩
theorem eX9_told_73 : am_d cX9_told 73 (.getfield 102) 3 76 := ⟨by decide +kernel, rfl⟩
theorem eX9_told_76 : am_d cX9_told 76 (.iload 5) 2 78 := ⟨by decide +kernel, rfl⟩
theorem eX9_told_78 : am_d cX9_told 78 (.iaload) 1 79 := ⟨by decide +kernel, rfl⟩
theorem eX9_told_79 : am_b cX9_told 79 (.goto 50) (50) 82 129 := ⟨by decide +kernel, rfl, by decide⟩
theorem eX9_told_82 : am_d cX9_told 82 (.iload_n 3) 1 83 := ⟨by decide +kernel, rfl⟩
theorem eX9_told_83 : am_d cX9_told 83 (.iconst 1) 1 84 := ⟨by decide +kernel, rfl⟩
theorem eX9_told_84 : am_b cX9_told 84 (.if_icmp .ne 13) (13) 87 97 := ⟨by decide +kernel, rfl, by decide⟩
theorem eX9_told_87 : am_d cX9_told 87 (.aload_n 0) 1 88 := ⟨by decide +kernel, rfl⟩
theorem eX9_told_88 : am_d cX9_told 88 (.getfield 99) 3 91 := ⟨by decide +kernel, rfl⟩
theorem eX9_told_91 : am_d cX9_told 91 (.iload 5) 2 93 := ⟨by decide +kernel, rfl⟩
theorem eX9_told_93 : am_d cX9_told 93 (.iaload) 1 94 := ⟨by decide +kernel, rfl⟩
theorem eX9_told_94 : am_b cX9_told 94 (.goto 35) (35) 97 129 := ⟨by decide +kernel, rfl, by decide⟩
theorem eX9_told_97 : am_d cX9_told 97 (.iload_n 3) 1 98 := ⟨by decide +kernel, rfl⟩
theorem eX9_told_98 : am_d cX9_told 98 (.iconst 2) 1 99 := ⟨by decide +kernel, rfl⟩
theorem eX9_told_99 : am_b cX9_told 99 (.if_icmp .ne 15) (15) 102 114 := ⟨by decide +kernel, rfl, by decide⟩
theorem eX9_told_102 : am_d cX9_told 102 (.aload_n 0) 1 103 := ⟨by decide +kernel, rfl⟩
theorem eX9_told_103 : am_d cX9_told 103 (.getfield 108) 3 106 := ⟨by decide +kernel, rfl⟩
theorem eX9_told_106 : am_d cX9_told 106 (.iload 5) 2 108 := ⟨by decide +kernel, rfl⟩
theorem eX9_told_108 : am_d cX9_told 108 (.iaload) 1 109 := ⟨by decide +kernel, rfl⟩
theorem eX9_told_109 : am_d cX9_told 109 (.iconst 2) 1 110 := ⟨by decide +kernel, rfl⟩
theorem eX9_told_110 : am_d cX9_told 110 (.idiv) 1 111 := ⟨by decide +kernel, rfl⟩
theorem eX9_told_111 : am_b cX9_told 111 (.goto 18) (18) 114 129 := ⟨by decide +kernel, rfl, by decide⟩
theorem eX9_told_114 : am_d cX9_told 114 (.aload_n 0) 1 115 := ⟨by decide +kernel, rfl⟩
theorem eX9_told_115 : am_d cX9_told 115 (.getfield 105) 3 118 := ⟨by decide +kernel, rfl⟩
theorem eX9_told_118 : am_d cX9_told 118 (.iload 5) 2 120 := ⟨by decide +kernel, rfl⟩
theorem eX9_told_120 : am_d cX9_told 120 (.baload) 1 121 := ⟨by decide +kernel, rfl⟩
theorem eX9_told_121 : am_b cX9_told 121 (.ifCond .eq 7) (7) 124 128 := ⟨by decide +kernel, rfl, by decide⟩
theorem eX9_told_124 : am_d cX9_told 124 (.iconst 1) 1 125 := ⟨by decide +kernel, rfl⟩
theorem eX9_told_125 : am_b cX9_told 125 (.goto 4) (4) 128 129 := ⟨by decide +kernel, rfl, by decide⟩
theorem eX9_told_128 : am_d cX9_told 128 (.iconst 0) 1 129 := ⟨by decide +kernel, rfl⟩
theorem eX9_told_129 : am_d cX9_told 129 (.ireturn) 1 130 := ⟨by decide +kernel, rfl⟩
theorem eX9_phrase_0 : am_d cX9_phrase 0 (.iload_n 1) 1 1 := ⟨by decide +kernel, rfl⟩
theorem eX9_phrase_1 : am_b cX9_phrase 1 (.ifCond .eq 7) (7) 4 8 := ⟨by decide +kernel, rfl, by decide⟩
theorem eX9_phrase_4 : am_d cX9_phrase 4 (.iconst 1) 1 5 := ⟨by decide +kernel, rfl⟩
theorem eX9_phrase_5 : am_b cX9_phrase 5 (.goto 4) (4) 8 9 := ⟨by decide +kernel, rfl, by decide⟩
theorem eX9_phrase_8 : am_d cX9_phrase 8 (.iconst 0) 1 9 := ⟨by decide +kernel, rfl⟩
theorem eX9_phrase_9 : am_d cX9_phrase 9 (.istore 5) 2 11 := ⟨by decide +kernel, rfl⟩
theorem eX9_phrase_11 : am_d cX9_phrase 11 (.iload_n 2) 1 12 := ⟨by decide +kernel, rfl⟩
theorem eX9_phrase_12 : am_d cX9_phrase 12 (.iconst 0) 1 13 := ⟨by decide +kernel, rfl⟩
theorem eX9_phrase_13 : am_d cX9_phrase 13 (.aload_n 0) 1 14 := ⟨by decide +kernel, rfl⟩
theorem eX9_phrase_14 : am_d cX9_phrase 14 (.getfield 96) 3 17 := ⟨by decide +kernel, rfl⟩
theorem eX9_phrase_17 : am_d cX9_phrase 17 (.iload 5) 2 19 := ⟨by decide +kernel, rfl⟩
theorem eX9_phrase_19 : am_d cX9_phrase 19 (.iaload) 1 20 := ⟨by decide +kernel, rfl⟩
theorem eX9_phrase_20 : am_d cX9_phrase 20 (.iconst 1) 1 21 := ⟨by decide +kernel, rfl⟩
theorem eX9_phrase_21 : am_d cX9_phrase 21 (.isub) 1 22 := ⟨by decide +kernel, rfl⟩
theorem eX9_phrase_22 : am_d cX9_phrase 22 (.invokestatic 129) 3 25 := ⟨by decide +kernel, rfl⟩
theorem eX9_phrase_25 : am_b cX9_phrase 25 (.ifCond .eq 15) (15) 28 40 := ⟨by decide +kernel, rfl, by decide⟩
theorem eX9_phrase_28 : am_d cX9_phrase 28 (.iload 4) 2 30 := ⟨by decide +kernel, rfl⟩
theorem eX9_phrase_30 : am_d cX9_phrase 30 (.invokestatic 155) 3 33 := ⟨by decide +kernel, rfl⟩
theorem eX9_phrase_33 : am_b cX9_phrase 33 (.ifCond .eq 7) (7) 36 40 := ⟨by decide +kernel, rfl, by decide⟩
theorem eX9_phrase_36 : am_d cX9_phrase 36 (.iconst 1) 1 37 := ⟨by decide +kernel, rfl⟩
theorem eX9_phrase_37 : am_b cX9_phrase 37 (.goto 4) (4) 40 41 := ⟨by decide +kernel, rfl, by decide⟩
theorem eX9_phrase_40 : am_d cX9_phrase 40 (.iconst 0) 1 41 := ⟨by decide +kernel, rfl⟩
theorem eX9_phrase_41 : am_d cX9_phrase 41 (.istore 6) 2 43 := ⟨by decide +kernel, rfl⟩
theorem eX9_phrase_43 : am_d cX9_phrase 43 (.aload_n 0) 1 44 := ⟨by decide +kernel, rfl⟩
theorem eX9_phrase_44 : am_d cX9_phrase 44 (.iload 6) 2 46 := ⟨by decide +kernel, rfl⟩
theorem eX9_phrase_46 : am_b cX9_phrase 46 (.ifCond .eq 31) (31) 49 77 := ⟨by decide +kernel, rfl, by decide⟩
theorem eX9_phrase_49 : am_d cX9_phrase 49 (.iload_n 3) 1 50 := ⟨by decide +kernel, rfl⟩
theorem eX9_phrase_50 : am_d cX9_phrase 50 (.iconst 0) 1 51 := ⟨by decide +kernel, rfl⟩
theorem eX9_phrase_51 : am_d cX9_phrase 51 (.aload_n 0) 1 52 := ⟨by decide +kernel, rfl⟩
theorem eX9_phrase_52 : am_d cX9_phrase 52 (.getfield 108) 3 55 := ⟨by decide +kernel, rfl⟩
theorem eX9_phrase_55 : am_d cX9_phrase 55 (.bipush 40) 2 57 := ⟨by decide +kernel, rfl⟩
theorem eX9_phrase_57 : am_d cX9_phrase 57 (.iload 5) 2 59 := ⟨by decide +kernel, rfl⟩
theorem eX9_phrase_59 : am_d cX9_phrase 59 (.imul) 1 60 := ⟨by decide +kernel, rfl⟩
theorem eX9_phrase_60 : am_d cX9_phrase 60 (.iload_n 2) 1 61 := ⟨by decide +kernel, rfl⟩
theorem eX9_phrase_61 : am_d cX9_phrase 61 (.iadd) 1 62 := ⟨by decide +kernel, rfl⟩
theorem eX9_phrase_62 : am_d cX9_phrase 62 (.iaload) 1 63 := ⟨by decide +kernel, rfl⟩
theorem eX9_phrase_63 : am_d cX9_phrase 63 (.iconst 2) 1 64 := ⟨by decide +kernel, rfl⟩
theorem eX9_phrase_64 : am_d cX9_phrase 64 (.idiv) 1 65 := ⟨by decide +kernel, rfl⟩
theorem eX9_phrase_65 : am_d cX9_phrase 65 (.iconst 1) 1 66 := ⟨by decide +kernel, rfl⟩
theorem eX9_phrase_66 : am_d cX9_phrase 66 (.isub) 1 67 := ⟨by decide +kernel, rfl⟩
theorem eX9_phrase_67 : am_d cX9_phrase 67 (.invokestatic 129) 3 70 := ⟨by decide +kernel, rfl⟩
theorem eX9_phrase_70 : am_b cX9_phrase 70 (.ifCond .eq 7) (7) 73 77 := ⟨by decide +kernel, rfl, by decide⟩
theorem eX9_phrase_73 : am_d cX9_phrase 73 (.iconst 0) 1 74 := ⟨by decide +kernel, rfl⟩
theorem eX9_phrase_74 : am_b cX9_phrase 74 (.goto 4) (4) 77 78 := ⟨by decide +kernel, rfl, by decide⟩
theorem eX9_phrase_77 : am_d cX9_phrase 77 (.iconst 1) 1 78 := ⟨by decide +kernel, rfl⟩
theorem eX9_phrase_78 : am_d cX9_phrase 78 (.putfield 123) 3 81 := ⟨by decide +kernel, rfl⟩
theorem eX9_phrase_81 : am_d cX9_phrase 81 (.aload_n 0) 1 82 := ⟨by decide +kernel, rfl⟩
theorem eX9_phrase_82 : am_d cX9_phrase 82 (.getfield 123) 3 85 := ⟨by decide +kernel, rfl⟩
theorem eX9_phrase_85 : am_b cX9_phrase 85 (.ifCond .le 5) (5) 88 90 := ⟨by decide +kernel, rfl, by decide⟩
theorem eX9_phrase_88 : am_d cX9_phrase 88 (.iconst 0) 1 89 := ⟨by decide +kernel, rfl⟩
theorem eX9_phrase_89 : am_d cX9_phrase 89 (.ireturn) 1 90 := ⟨by decide +kernel, rfl⟩
theorem eX9_phrase_90 : am_d cX9_phrase 90 (.bipush 60) 2 92 := ⟨by decide +kernel, rfl⟩
theorem eX9_phrase_92 : am_d cX9_phrase 92 (.bipush 40) 2 94 := ⟨by decide +kernel, rfl⟩
theorem eX9_phrase_94 : am_d cX9_phrase 94 (.iload 5) 2 96 := ⟨by decide +kernel, rfl⟩
theorem eX9_phrase_96 : am_d cX9_phrase 96 (.imul) 1 97 := ⟨by decide +kernel, rfl⟩
theorem eX9_phrase_97 : am_d cX9_phrase 97 (.iload_n 2) 1 98 := ⟨by decide +kernel, rfl⟩
theorem eX9_phrase_98 : am_d cX9_phrase 98 (.iadd) 1 99 := ⟨by decide +kernel, rfl⟩
theorem eX9_phrase_99 : am_d cX9_phrase 99 (.imul) 1 100 := ⟨by decide +kernel, rfl⟩
theorem eX9_phrase_100 : am_d cX9_phrase 100 (.iconst 2) 1 101 := ⟨by decide +kernel, rfl⟩
theorem eX9_phrase_101 : am_d cX9_phrase 101 (.iload_n 3) 1 102 := ⟨by decide +kernel, rfl⟩
theorem eX9_phrase_102 : am_d cX9_phrase 102 (.imul) 1 103 := ⟨by decide +kernel, rfl⟩
theorem eX9_phrase_103 : am_d cX9_phrase 103 (.iadd) 1 104 := ⟨by decide +kernel, rfl⟩
theorem eX9_phrase_104 : am_d cX9_phrase 104 (.istore 7) 2 106 := ⟨by decide +kernel, rfl⟩
theorem eX9_phrase_106 : am_d cX9_phrase 106 (.aload_n 0) 1 107 := ⟨by decide +kernel, rfl⟩
theorem eX9_phrase_107 : am_d cX9_phrase 107 (.iload 4) 2 109 := ⟨by decide +kernel, rfl⟩
theorem eX9_phrase_109 : am_d cX9_phrase 109 (.bipush 92) 2 111 := ⟨by decide +kernel, rfl⟩
theorem eX9_phrase_111 : am_d cX9_phrase 111 (.aload_n 0) 1 112 := ⟨by decide +kernel, rfl⟩
theorem eX9_phrase_112 : am_d cX9_phrase 112 (.getfield 111) 3 115 := ⟨by decide +kernel, rfl⟩
theorem eX9_phrase_115 : am_d cX9_phrase 115 (.iload 7) 2 117 := ⟨by decide +kernel, rfl⟩
theorem eX9_phrase_117 : am_d cX9_phrase 117 (.iaload) 1 118 := ⟨by decide +kernel, rfl⟩
theorem eX9_phrase_118 : am_d cX9_phrase 118 (.imul) 1 119 := ⟨by decide +kernel, rfl⟩
theorem eX9_phrase_119 : am_d cX9_phrase 119 (.aload_n 0) 1 120 := ⟨by decide +kernel, rfl⟩
theorem eX9_phrase_120 : am_d cX9_phrase 120 (.getfield 111) 3 123 := ⟨by decide +kernel, rfl⟩
theorem eX9_phrase_123 : am_d cX9_phrase 123 (.iload 7) 2 125 := ⟨by decide +kernel, rfl⟩
theorem eX9_phrase_125 : am_d cX9_phrase 125 (.iconst 1) 1 126 := ⟨by decide +kernel, rfl⟩
theorem eX9_phrase_126 : am_d cX9_phrase 126 (.iadd) 1 127 := ⟨by decide +kernel, rfl⟩
theorem eX9_phrase_127 : am_d cX9_phrase 127 (.iaload) 1 128 := ⟨by decide +kernel, rfl⟩
theorem eX9_phrase_128 : am_d cX9_phrase 128 (.iadd) 1 129 := ⟨by decide +kernel, rfl⟩
theorem eX9_phrase_129 : am_d cX9_phrase 129 (.invokevirtual 158) 3 132 := ⟨by decide +kernel, rfl⟩
theorem eX9_phrase_132 : am_d cX9_phrase 132 (.istore 8) 2 134 := ⟨by decide +kernel, rfl⟩
theorem eX9_phrase_134 : am_d cX9_phrase 134 (.iload 8) 2 136 := ⟨by decide +kernel, rfl⟩
theorem eX9_phrase_136 : am_d cX9_phrase 136 (.iconst (-1)) 1 137 := ⟨by decide +kernel, rfl⟩
theorem eX9_phrase_137 : am_b cX9_phrase 137 (.if_icmp .ne 7) (7) 140 144 := ⟨by decide +kernel, rfl, by decide⟩
theorem eX9_phrase_140 : am_d cX9_phrase 140 (.iconst (-1)) 1 141 := ⟨by decide +kernel, rfl⟩
theorem eX9_phrase_141 : am_b cX9_phrase 141 (.goto 10) (10) 144 151 := ⟨by decide +kernel, rfl, by decide⟩
theorem eX9_phrase_144 : am_d cX9_phrase 144 (.aload_n 0) 1 145 := ⟨by decide +kernel, rfl⟩
theorem eX9_phrase_145 : am_d cX9_phrase 145 (.getfield 69) 3 148 := ⟨by decide +kernel, rfl⟩
theorem eX9_phrase_148 : am_d cX9_phrase 148 (.iload 8) 2 150 := ⟨by decide +kernel, rfl⟩
theorem eX9_phrase_150 : am_d cX9_phrase 150 (.iaload) 1 151 := ⟨by decide +kernel, rfl⟩
theorem eX9_phrase_151 : am_d cX9_phrase 151 (.ireturn) 1 152 := ⟨by decide +kernel, rfl⟩
theorem eX9_open_0 : am_d cX9_open 0 (.aload_n 0) 1 1 := ⟨by decide +kernel, rfl⟩
theorem eX9_open_1 : am_d cX9_open 1 (.iconst 0) 1 2 := ⟨by decide +kernel, rfl⟩
theorem eX9_open_2 : am_d cX9_open 2 (.putfield 123) 3 5 := ⟨by decide +kernel, rfl⟩
theorem eX9_open_5 : am_d cX9_open 5 (.aload_n 0) 1 6 := ⟨by decide +kernel, rfl⟩
theorem eX9_open_6 : am_d cX9_open 6 (.getfield 81) 3 9 := ⟨by decide +kernel, rfl⟩
theorem eX9_open_9 : am_d cX9_open 9 (.iload_n 1) 1 10 := ⟨by decide +kernel, rfl⟩
theorem eX9_open_10 : am_b cX9_open 10 (.ifCond .eq 7) (7) 13 17 := ⟨by decide +kernel, rfl, by decide⟩
theorem eX9_open_13 : am_d cX9_open 13 (.iconst 1) 1 14 := ⟨by decide +kernel, rfl⟩
theorem eX9_open_14 : am_b cX9_open 14 (.goto 4) (4) 17 18 := ⟨by decide +kernel, rfl, by decide⟩
theorem eX9_open_17 : am_d cX9_open 17 (.iconst 0) 1 18 := ⟨by decide +kernel, rfl⟩
theorem eX9_open_18 : am_d cX9_open 18 (.iaload) 1 19 := ⟨by decide +kernel, rfl⟩
theorem eX9_open_19 : am_d cX9_open 19 (.ireturn) 1 20 := ⟨by decide +kernel, rfl⟩
theorem eX9_seen_0 : am_d cX9_seen 0 (.aload_n 0) 1 1 := ⟨by decide +kernel, rfl⟩
theorem eX9_seen_1 : am_d cX9_seen 1 (.iload_n 1) 1 2 := ⟨by decide +kernel, rfl⟩
theorem eX9_seen_2 : am_d cX9_seen 2 (.iconst 0) 1 3 := ⟨by decide +kernel, rfl⟩
theorem eX9_seen_3 : am_d cX9_seen 3 (.aload_n 0) 1 4 := ⟨by decide +kernel, rfl⟩
theorem eX9_seen_4 : am_d cX9_seen 4 (.getfield 186) 3 7 := ⟨by decide +kernel, rfl⟩
theorem eX9_seen_7 : am_d cX9_seen 7 (.iconst 1) 1 8 := ⟨by decide +kernel, rfl⟩
theorem eX9_seen_8 : am_d cX9_seen 8 (.isub) 1 9 := ⟨by decide +kernel, rfl⟩
theorem eX9_seen_9 : am_d cX9_seen 9 (.invokestatic 129) 3 12 := ⟨by decide +kernel, rfl⟩
theorem eX9_seen_12 : am_b cX9_seen 12 (.ifCond .eq 7) (7) 15 19 := ⟨by decide +kernel, rfl, by decide⟩
theorem eX9_seen_15 : am_d cX9_seen 15 (.iconst 0) 1 16 := ⟨by decide +kernel, rfl⟩
theorem eX9_seen_16 : am_b cX9_seen 16 (.goto 4) (4) 19 20 := ⟨by decide +kernel, rfl, by decide⟩
theorem eX9_seen_19 : am_d cX9_seen 19 (.iconst 1) 1 20 := ⟨by decide +kernel, rfl⟩
theorem eX9_seen_20 : am_d cX9_seen 20 (.putfield 123) 3 23 := ⟨by decide +kernel, rfl⟩
theorem eX9_seen_23 : am_d cX9_seen 23 (.aload_n 0) 1 24 := ⟨by decide +kernel, rfl⟩
theorem eX9_seen_24 : am_d cX9_seen 24 (.getfield 123) 3 27 := ⟨by decide +kernel, rfl⟩
theorem eX9_seen_27 : am_b cX9_seen 27 (.ifCond .le 7) (7) 30 34 := ⟨by decide +kernel, rfl, by decide⟩
theorem eX9_seen_30 : am_d cX9_seen 30 (.iconst 0) 1 31 := ⟨by decide +kernel, rfl⟩
theorem eX9_seen_31 : am_b cX9_seen 31 (.goto 9) (9) 34 40 := ⟨by decide +kernel, rfl, by decide⟩
theorem eX9_seen_34 : am_d cX9_seen 34 (.aload_n 0) 1 35 := ⟨by decide +kernel, rfl⟩
theorem eX9_seen_35 : am_d cX9_seen 35 (.getfield 117) 3 38 := ⟨by decide +kernel, rfl⟩
theorem eX9_seen_38 : am_d cX9_seen 38 (.iload_n 1) 1 39 := ⟨by decide +kernel, rfl⟩
theorem eX9_seen_39 : am_d cX9_seen 39 (.iaload) 1 40 := ⟨by decide +kernel, rfl⟩
theorem eX9_seen_40 : am_d cX9_seen 40 (.ireturn) 1 41 := ⟨by decide +kernel, rfl⟩
theorem eX9_tries_0 : am_d cX9_tries 0 (.aload_n 0) 1 1 := ⟨by decide +kernel, rfl⟩
theorem eX9_tries_1 : am_d cX9_tries 1 (.iload_n 1) 1 2 := ⟨by decide +kernel, rfl⟩
theorem eX9_tries_2 : am_d cX9_tries 2 (.iconst 0) 1 3 := ⟨by decide +kernel, rfl⟩
theorem eX9_tries_3 : am_d cX9_tries 3 (.aload_n 0) 1 4 := ⟨by decide +kernel, rfl⟩
theorem eX9_tries_4 : am_d cX9_tries 4 (.getfield 186) 3 7 := ⟨by decide +kernel, rfl⟩
theorem eX9_tries_7 : am_d cX9_tries 7 (.iconst 1) 1 8 := ⟨by decide +kernel, rfl⟩
theorem eX9_tries_8 : am_d cX9_tries 8 (.isub) 1 9 := ⟨by decide +kernel, rfl⟩
theorem eX9_tries_9 : am_d cX9_tries 9 (.invokestatic 129) 3 12 := ⟨by decide +kernel, rfl⟩
theorem eX9_tries_12 : am_b cX9_tries 12 (.ifCond .eq 14) (14) 15 26 := ⟨by decide +kernel, rfl, by decide⟩
theorem eX9_tries_15 : am_d cX9_tries 15 (.iload_n 2) 1 16 := ⟨by decide +kernel, rfl⟩
theorem eX9_tries_16 : am_d cX9_tries 16 (.invokestatic 155) 3 19 := ⟨by decide +kernel, rfl⟩
theorem eX9_tries_19 : am_b cX9_tries 19 (.ifCond .eq 7) (7) 22 26 := ⟨by decide +kernel, rfl, by decide⟩
theorem eX9_tries_22 : am_d cX9_tries 22 (.iconst 0) 1 23 := ⟨by decide +kernel, rfl⟩
theorem eX9_tries_23 : am_b cX9_tries 23 (.goto 4) (4) 26 27 := ⟨by decide +kernel, rfl, by decide⟩
theorem eX9_tries_26 : am_d cX9_tries 26 (.iconst 1) 1 27 := ⟨by decide +kernel, rfl⟩
theorem eX9_tries_27 : am_d cX9_tries 27 (.putfield 123) 3 30 := ⟨by decide +kernel, rfl⟩
theorem eX9_tries_30 : am_d cX9_tries 30 (.iconst 0) 1 31 := ⟨by decide +kernel, rfl⟩
theorem eX9_tries_31 : am_d cX9_tries 31 (.istore_n 3) 1 32 := ⟨by decide +kernel, rfl⟩
theorem eX9_tries_32 : am_d cX9_tries 32 (.iconst 0) 1 33 := ⟨by decide +kernel, rfl⟩
theorem eX9_tries_33 : am_d cX9_tries 33 (.istore 4) 2 35 := ⟨by decide +kernel, rfl⟩
theorem eX9_tries_35 : am_d cX9_tries 35 (.aload_n 0) 1 36 := ⟨by decide +kernel, rfl⟩
theorem eX9_tries_36 : am_d cX9_tries 36 (.getfield 123) 3 39 := ⟨by decide +kernel, rfl⟩
theorem eX9_tries_39 : am_b cX9_tries 39 (.ifCond .ne 71) (71) 42 110 := ⟨by decide +kernel, rfl, by decide⟩
theorem eX9_tries_42 : am_d cX9_tries 42 (.iload 4) 2 44 := ⟨by decide +kernel, rfl⟩
theorem eX9_tries_44 : am_d cX9_tries 44 (.iconst 1) 1 45 := ⟨by decide +kernel, rfl⟩
theorem eX9_tries_45 : am_d cX9_tries 45 (.iadd) 1 46 := ⟨by decide +kernel, rfl⟩
theorem eX9_tries_46 : am_d cX9_tries 46 (.aload_n 0) 1 47 := ⟨by decide +kernel, rfl⟩
theorem eX9_tries_47 : am_d cX9_tries 47 (.getfield 117) 3 50 := ⟨by decide +kernel, rfl⟩
theorem eX9_tries_50 : am_d cX9_tries 50 (.iload_n 1) 1 51 := ⟨by decide +kernel, rfl⟩
theorem eX9_tries_51 : am_d cX9_tries 51 (.iaload) 1 52 := ⟨by decide +kernel, rfl⟩
theorem eX9_tries_52 : am_b cX9_tries 52 (.if_icmp .ge 58) (58) 55 110 := ⟨by decide +kernel, rfl, by decide⟩
theorem eX9_tries_55 : am_d cX9_tries 55 (.iload_n 3) 1 56 := ⟨by decide +kernel, rfl⟩
theorem eX9_tries_56 : am_d cX9_tries 56 (.aload_n 0) 1 57 := ⟨by decide +kernel, rfl⟩
theorem eX9_tries_57 : am_d cX9_tries 57 (.iload_n 2) 1 58 := ⟨by decide +kernel, rfl⟩
theorem eX9_tries_58 : am_d cX9_tries 58 (.bipush 92) 2 60 := ⟨by decide +kernel, rfl⟩
theorem eX9_tries_60 : am_d cX9_tries 60 (.aload_n 0) 1 61 := ⟨by decide +kernel, rfl⟩
theorem eX9_tries_61 : am_d cX9_tries 61 (.getfield 120) 3 64 := ⟨by decide +kernel, rfl⟩
theorem eX9_tries_64 : am_d cX9_tries 64 (.sipush 200) 3 67 := ⟨by decide +kernel, rfl⟩
theorem eX9_tries_67 : am_d cX9_tries 67 (.iload_n 1) 1 68 := ⟨by decide +kernel, rfl⟩
theorem eX9_tries_68 : am_d cX9_tries 68 (.imul) 1 69 := ⟨by decide +kernel, rfl⟩
theorem eX9_tries_69 : am_d cX9_tries 69 (.iload 4) 2 71 := ⟨by decide +kernel, rfl⟩
theorem eX9_tries_71 : am_d cX9_tries 71 (.iadd) 1 72 := ⟨by decide +kernel, rfl⟩
theorem eX9_tries_72 : am_d cX9_tries 72 (.iaload) 1 73 := ⟨by decide +kernel, rfl⟩
theorem eX9_tries_73 : am_d cX9_tries 73 (.imul) 1 74 := ⟨by decide +kernel, rfl⟩
theorem eX9_tries_74 : am_d cX9_tries 74 (.aload_n 0) 1 75 := ⟨by decide +kernel, rfl⟩
theorem eX9_tries_75 : am_d cX9_tries 75 (.getfield 120) 3 78 := ⟨by decide +kernel, rfl⟩
theorem eX9_tries_78 : am_d cX9_tries 78 (.sipush 200) 3 81 := ⟨by decide +kernel, rfl⟩
theorem eX9_tries_81 : am_d cX9_tries 81 (.iload_n 1) 1 82 := ⟨by decide +kernel, rfl⟩
theorem eX9_tries_82 : am_d cX9_tries 82 (.imul) 1 83 := ⟨by decide +kernel, rfl⟩
theorem eX9_tries_83 : am_d cX9_tries 83 (.iload 4) 2 85 := ⟨by decide +kernel, rfl⟩
theorem eX9_tries_85 : am_d cX9_tries 85 (.iadd) 1 86 := ⟨by decide +kernel, rfl⟩
theorem eX9_tries_86 : am_d cX9_tries 86 (.iconst 1) 1 87 := ⟨by decide +kernel, rfl⟩
theorem eX9_tries_87 : am_d cX9_tries 87 (.iadd) 1 88 := ⟨by decide +kernel, rfl⟩
theorem eX9_tries_88 : am_d cX9_tries 88 (.iaload) 1 89 := ⟨by decide +kernel, rfl⟩
theorem eX9_tries_89 : am_d cX9_tries 89 (.iadd) 1 90 := ⟨by decide +kernel, rfl⟩
theorem eX9_tries_90 : am_d cX9_tries 90 (.invokevirtual 158) 3 93 := ⟨by decide +kernel, rfl⟩
theorem eX9_tries_93 : am_d cX9_tries 93 (.iconst (-1)) 1 94 := ⟨by decide +kernel, rfl⟩
theorem eX9_tries_94 : am_b cX9_tries 94 (.if_icmp .ne 7) (7) 97 101 := ⟨by decide +kernel, rfl, by decide⟩
theorem eX9_tries_97 : am_d cX9_tries 97 (.iconst 0) 1 98 := ⟨by decide +kernel, rfl⟩
theorem eX9_tries_98 : am_b cX9_tries 98 (.goto 4) (4) 101 102 := ⟨by decide +kernel, rfl, by decide⟩
theorem eX9_tries_101 : am_d cX9_tries 101 (.iconst 1) 1 102 := ⟨by decide +kernel, rfl⟩
theorem eX9_tries_102 : am_d cX9_tries 102 (.iadd) 1 103 := ⟨by decide +kernel, rfl⟩
theorem eX9_tries_103 : am_d cX9_tries 103 (.istore_n 3) 1 104 := ⟨by decide +kernel, rfl⟩
theorem eX9_tries_104 : am_d cX9_tries 104 (.iinc 4 2) 3 107 := ⟨by decide +kernel, rfl⟩
theorem eX9_tries_107 : am_b cX9_tries 107 (.goto (-72)) (-72) 110 35 := ⟨by decide +kernel, rfl, by decide⟩
theorem eX9_tries_110 : am_d cX9_tries 110 (.iload_n 3) 1 111 := ⟨by decide +kernel, rfl⟩
theorem eX9_tries_111 : am_d cX9_tries 111 (.ireturn) 1 112 := ⟨by decide +kernel, rfl⟩
theorem eX9_comes_0 : am_d cX9_comes 0 (.aload_n 0) 1 1 := ⟨by decide +kernel, rfl⟩
theorem eX9_comes_1 : am_d cX9_comes 1 (.iload_n 1) 1 2 := ⟨by decide +kernel, rfl⟩
theorem eX9_comes_2 : am_d cX9_comes 2 (.iconst 1) 1 3 := ⟨by decide +kernel, rfl⟩
theorem eX9_comes_3 : am_d cX9_comes 3 (.bipush 99) 2 5 := ⟨by decide +kernel, rfl⟩
theorem eX9_comes_5 : am_d cX9_comes 5 (.invokestatic 129) 3 8 := ⟨by decide +kernel, rfl⟩
theorem eX9_comes_8 : am_b cX9_comes 8 (.ifCond .eq 7) (7) 11 15 := ⟨by decide +kernel, rfl, by decide⟩
theorem eX9_comes_11 : am_d cX9_comes 11 (.iconst 0) 1 12 := ⟨by decide +kernel, rfl⟩
theorem eX9_comes_12 : am_b cX9_comes 12 (.goto 4) (4) 15 16 := ⟨by decide +kernel, rfl, by decide⟩
theorem eX9_comes_15 : am_d cX9_comes 15 (.iconst 1) 1 16 := ⟨by decide +kernel, rfl⟩
theorem eX9_comes_16 : am_d cX9_comes 16 (.putfield 123) 3 19 := ⟨by decide +kernel, rfl⟩
theorem eX9_comes_19 : am_d cX9_comes 19 (.aload_n 0) 1 20 := ⟨by decide +kernel, rfl⟩
theorem eX9_comes_20 : am_d cX9_comes 20 (.getfield 123) 3 23 := ⟨by decide +kernel, rfl⟩
theorem eX9_comes_23 : am_b cX9_comes 23 (.ifCond .le 7) (7) 26 30 := ⟨by decide +kernel, rfl, by decide⟩
theorem eX9_comes_26 : am_d cX9_comes 26 (.iconst 0) 1 27 := ⟨by decide +kernel, rfl⟩
theorem eX9_comes_27 : am_b cX9_comes 27 (.goto 23) (23) 30 50 := ⟨by decide +kernel, rfl, by decide⟩
theorem eX9_comes_30 : am_d cX9_comes 30 (.aload_n 0) 1 31 := ⟨by decide +kernel, rfl⟩
theorem eX9_comes_31 : am_d cX9_comes 31 (.getfield 126) 3 34 := ⟨by decide +kernel, rfl⟩
theorem eX9_comes_34 : am_d cX9_comes 34 (.iconst 2) 1 35 := ⟨by decide +kernel, rfl⟩
theorem eX9_comes_35 : am_b cX9_comes 35 (.if_icmp .ge 7) (7) 38 42 := ⟨by decide +kernel, rfl, by decide⟩
theorem eX9_comes_38 : am_d cX9_comes 38 (.iconst (-1)) 1 39 := ⟨by decide +kernel, rfl⟩
theorem eX9_comes_39 : am_b cX9_comes 39 (.goto 11) (11) 42 50 := ⟨by decide +kernel, rfl, by decide⟩
theorem eX9_comes_42 : am_d cX9_comes 42 (.aload_n 0) 1 43 := ⟨by decide +kernel, rfl⟩
theorem eX9_comes_43 : am_d cX9_comes 43 (.getfield 126) 3 46 := ⟨by decide +kernel, rfl⟩
theorem eX9_comes_46 : am_d cX9_comes 46 (.iload_n 1) 1 47 := ⟨by decide +kernel, rfl⟩
theorem eX9_comes_47 : am_d cX9_comes 47 (.iadd) 1 48 := ⟨by decide +kernel, rfl⟩
theorem eX9_comes_48 : am_d cX9_comes 48 (.iconst 1) 1 49 := ⟨by decide +kernel, rfl⟩
theorem eX9_comes_49 : am_d cX9_comes 49 (.isub) 1 50 := ⟨by decide +kernel, rfl⟩
theorem eX9_comes_50 : am_d cX9_comes 50 (.ireturn) 1 51 := ⟨by decide +kernel, rfl⟩
theorem eX9_comesAnew_0 : am_d cX9_comesAnew 0 (.aload_n 0) 1 1 := ⟨by decide +kernel, rfl⟩
theorem eX9_comesAnew_1 : am_d cX9_comesAnew 1 (.iload_n 1) 1 2 := ⟨by decide +kernel, rfl⟩
theorem eX9_comesAnew_2 : am_d cX9_comesAnew 2 (.iconst 1) 1 3 := ⟨by decide +kernel, rfl⟩
theorem eX9_comesAnew_3 : am_d cX9_comesAnew 3 (.bipush 99) 2 5 := ⟨by decide +kernel, rfl⟩
theorem eX9_comesAnew_5 : am_d cX9_comesAnew 5 (.invokestatic 129) 3 8 := ⟨by decide +kernel, rfl⟩
theorem eX9_comesAnew_8 : am_b cX9_comesAnew 8 (.ifCond .eq 7) (7) 11 15 := ⟨by decide +kernel, rfl, by decide⟩
theorem eX9_comesAnew_11 : am_d cX9_comesAnew 11 (.iconst 0) 1 12 := ⟨by decide +kernel, rfl⟩
theorem eX9_comesAnew_12 : am_b cX9_comesAnew 12 (.goto 4) (4) 15 16 := ⟨by decide +kernel, rfl, by decide⟩
theorem eX9_comesAnew_15 : am_d cX9_comesAnew 15 (.iconst 1) 1 16 := ⟨by decide +kernel, rfl⟩
theorem eX9_comesAnew_16 : am_d cX9_comesAnew 16 (.putfield 123) 3 19 := ⟨by decide +kernel, rfl⟩
theorem eX9_comesAnew_19 : am_d cX9_comesAnew 19 (.aload_n 0) 1 20 := ⟨by decide +kernel, rfl⟩
theorem eX9_comesAnew_20 : am_d cX9_comesAnew 20 (.getfield 123) 3 23 := ⟨by decide +kernel, rfl⟩
theorem eX9_comesAnew_23 : am_b cX9_comesAnew 23 (.ifCond .le 7) (7) 26 30 := ⟨by decide +kernel, rfl, by decide⟩
theorem eX9_comesAnew_26 : am_d cX9_comesAnew 26 (.iconst 0) 1 27 := ⟨by decide +kernel, rfl⟩
theorem eX9_comesAnew_27 : am_b cX9_comesAnew 27 (.goto 23) (23) 30 50 := ⟨by decide +kernel, rfl, by decide⟩
theorem eX9_comesAnew_30 : am_d cX9_comesAnew 30 (.aload_n 0) 1 31 := ⟨by decide +kernel, rfl⟩
theorem eX9_comesAnew_31 : am_d cX9_comesAnew 31 (.getfield 126) 3 34 := ⟨by decide +kernel, rfl⟩
theorem eX9_comesAnew_34 : am_d cX9_comesAnew 34 (.iconst 2) 1 35 := ⟨by decide +kernel, rfl⟩
theorem eX9_comesAnew_35 : am_b cX9_comesAnew 35 (.if_icmp .ge 7) (7) 38 42 := ⟨by decide +kernel, rfl, by decide⟩
theorem eX9_comesAnew_38 : am_d cX9_comesAnew 38 (.iconst (-1)) 1 39 := ⟨by decide +kernel, rfl⟩
theorem eX9_comesAnew_39 : am_b cX9_comesAnew 39 (.goto 11) (11) 42 50 := ⟨by decide +kernel, rfl, by decide⟩
theorem eX9_comesAnew_42 : am_d cX9_comesAnew 42 (.aload_n 0) 1 43 := ⟨by decide +kernel, rfl⟩
theorem eX9_comesAnew_43 : am_d cX9_comesAnew 43 (.getfield 126) 3 46 := ⟨by decide +kernel, rfl⟩
theorem eX9_comesAnew_46 : am_d cX9_comesAnew 46 (.iload_n 1) 1 47 := ⟨by decide +kernel, rfl⟩
theorem eX9_comesAnew_47 : am_d cX9_comesAnew 47 (.iadd) 1 48 := ⟨by decide +kernel, rfl⟩
theorem eX9_comesAnew_48 : am_d cX9_comesAnew 48 (.iconst 1) 1 49 := ⟨by decide +kernel, rfl⟩
theorem eX9_comesAnew_49 : am_d cX9_comesAnew 49 (.isub) 1 50 := ⟨by decide +kernel, rfl⟩
theorem eX9_comesAnew_50 : am_d cX9_comesAnew 50 (.ireturn) 1 51 := ⟨by decide +kernel, rfl⟩
theorem eJ9_min_7cf53_0 : am_d cJ9_min_7cf53 0 (.iload_n 0) 1 1 := ⟨by decide +kernel, rfl⟩
theorem eJ9_min_7cf53_1 : am_d cJ9_min_7cf53 1 (.iload_n 1) 1 2 := ⟨by decide +kernel, rfl⟩
theorem eJ9_min_7cf53_2 : am_b cJ9_min_7cf53 2 (.if_icmp .gt 7) (7) 5 9 := ⟨by decide +kernel, rfl, by decide⟩
theorem eJ9_min_7cf53_5 : am_d cJ9_min_7cf53 5 (.iload_n 0) 1 6 := ⟨by decide +kernel, rfl⟩
theorem eJ9_min_7cf53_6 : am_b cJ9_min_7cf53 6 (.goto 4) (4) 9 10 := ⟨by decide +kernel, rfl, by decide⟩
theorem eJ9_min_7cf53_9 : am_d cJ9_min_7cf53 9 (.iload_n 1) 1 10 := ⟨by decide +kernel, rfl⟩
theorem eJ9_min_7cf53_10 : am_d cJ9_min_7cf53 10 (.ireturn) 1 11 := ⟨by decide +kernel, rfl⟩
theorem eL_tower_0 : am_d cL_tower 0 (.aload_n 3) 1 1 := ⟨by decide +kernel, rfl⟩
theorem eL_tower_1 : am_d cL_tower 1 (.iconst 0) 1 2 := ⟨by decide +kernel, rfl⟩
theorem eL_tower_2 : am_d cL_tower 2 (.aload_n 0) 1 3 := ⟨by decide +kernel, rfl⟩
theorem eL_tower_3 : am_d cL_tower 3 (.iload_n 1) 1 4 := ⟨by decide +kernel, rfl⟩
theorem eL_tower_4 : am_d cL_tower 4 (.iload_n 2) 1 5 := ⟨by decide +kernel, rfl⟩
theorem eL_tower_5 : am_d cL_tower 5 (.invokevirtual 7) 3 8 := ⟨by decide +kernel, rfl⟩
theorem eL_tower_8 : am_d cL_tower 8 (.i2l) 1 9 := ⟨by decide +kernel, rfl⟩
theorem eL_tower_9 : am_d cL_tower 9 (.lastore) 1 10 := ⟨by decide +kernel, rfl⟩
theorem eL_tower_10 : am_b cL_tower 10 (.goto 11) (11) 13 21 := ⟨by decide +kernel, rfl, by decide⟩
theorem eL_tower_13 : am_d cL_tower 13 (.astore 4) 2 15 := ⟨by decide +kernel, rfl⟩
theorem eL_tower_15 : am_d cL_tower 15 (.iconst 1) 1 16 := ⟨by decide +kernel, rfl⟩
theorem eL_tower_16 : am_d cL_tower 16 (.ireturn) 1 17 := ⟨by decide +kernel, rfl⟩
theorem eL_tower_17 : am_d cL_tower 17 (.astore 4) 2 19 := ⟨by decide +kernel, rfl⟩
theorem eL_tower_19 : am_d cL_tower 19 (.iconst 2) 1 20 := ⟨by decide +kernel, rfl⟩
theorem eL_tower_20 : am_d cL_tower 20 (.ireturn) 1 21 := ⟨by decide +kernel, rfl⟩
theorem eL_tower_21 : am_d cL_tower 21 (.iconst 0) 1 22 := ⟨by decide +kernel, rfl⟩
theorem eL_tower_22 : am_d cL_tower 22 (.ireturn) 1 23 := ⟨by decide +kernel, rfl⟩
theorem eL_hill_0 : am_d cL_hill 0 (.aload 4) 2 2 := ⟨by decide +kernel, rfl⟩
theorem eL_hill_2 : am_d cL_hill 2 (.iconst 0) 1 3 := ⟨by decide +kernel, rfl⟩
theorem eL_hill_3 : am_d cL_hill 3 (.aload_n 0) 1 4 := ⟨by decide +kernel, rfl⟩
theorem eL_hill_4 : am_d cL_hill 4 (.iload_n 1) 1 5 := ⟨by decide +kernel, rfl⟩
theorem eL_hill_5 : am_d cL_hill 5 (.iload_n 2) 1 6 := ⟨by decide +kernel, rfl⟩
theorem eL_hill_6 : am_d cL_hill 6 (.iload_n 3) 1 7 := ⟨by decide +kernel, rfl⟩
theorem eL_hill_7 : am_d cL_hill 7 (.invokevirtual 17) 3 10 := ⟨by decide +kernel, rfl⟩
theorem eL_hill_10 : am_d cL_hill 10 (.i2l) 1 11 := ⟨by decide +kernel, rfl⟩
theorem eL_hill_11 : am_d cL_hill 11 (.lastore) 1 12 := ⟨by decide +kernel, rfl⟩
theorem eL_hill_12 : am_b cL_hill 12 (.goto 15) (15) 15 27 := ⟨by decide +kernel, rfl, by decide⟩
theorem eL_hill_15 : am_d cL_hill 15 (.astore 5) 2 17 := ⟨by decide +kernel, rfl⟩
theorem eL_hill_17 : am_d cL_hill 17 (.iconst 1) 1 18 := ⟨by decide +kernel, rfl⟩
theorem eL_hill_18 : am_d cL_hill 18 (.ireturn) 1 19 := ⟨by decide +kernel, rfl⟩
theorem eL_hill_19 : am_d cL_hill 19 (.astore 5) 2 21 := ⟨by decide +kernel, rfl⟩
theorem eL_hill_21 : am_d cL_hill 21 (.iconst 2) 1 22 := ⟨by decide +kernel, rfl⟩
theorem eL_hill_22 : am_d cL_hill 22 (.ireturn) 1 23 := ⟨by decide +kernel, rfl⟩
theorem eL_hill_23 : am_d cL_hill 23 (.astore 5) 2 25 := ⟨by decide +kernel, rfl⟩
theorem eL_hill_25 : am_d cL_hill 25 (.iconst 3) 1 26 := ⟨by decide +kernel, rfl⟩
theorem eL_hill_26 : am_d cL_hill 26 (.ireturn) 1 27 := ⟨by decide +kernel, rfl⟩
theorem eL_hill_27 : am_d cL_hill 27 (.iconst 0) 1 28 := ⟨by decide +kernel, rfl⟩
theorem eL_hill_28 : am_d cL_hill 28 (.ireturn) 1 29 := ⟨by decide +kernel, rfl⟩
theorem eL_air_0 : am_d cL_air 0 (.aload_n 3) 1 1 := ⟨by decide +kernel, rfl⟩
theorem eL_air_1 : am_d cL_air 1 (.iconst 0) 1 2 := ⟨by decide +kernel, rfl⟩
theorem eL_air_2 : am_d cL_air 2 (.aload_n 0) 1 3 := ⟨by decide +kernel, rfl⟩
theorem eL_air_3 : am_d cL_air 3 (.iload_n 1) 1 4 := ⟨by decide +kernel, rfl⟩
theorem eL_air_4 : am_d cL_air 4 (.iload_n 2) 1 5 := ⟨by decide +kernel, rfl⟩
theorem eL_air_5 : am_d cL_air 5 (.invokevirtual 23) 3 8 := ⟨by decide +kernel, rfl⟩
theorem eL_air_8 : am_d cL_air 8 (.i2l) 1 9 := ⟨by decide +kernel, rfl⟩
theorem eL_air_9 : am_d cL_air 9 (.lastore) 1 10 := ⟨by decide +kernel, rfl⟩
theorem eL_air_10 : am_b cL_air 10 (.goto 11) (11) 13 21 := ⟨by decide +kernel, rfl, by decide⟩
theorem eL_air_13 : am_d cL_air 13 (.astore 4) 2 15 := ⟨by decide +kernel, rfl⟩
theorem eL_air_15 : am_d cL_air 15 (.iconst 1) 1 16 := ⟨by decide +kernel, rfl⟩
theorem eL_air_16 : am_d cL_air 16 (.ireturn) 1 17 := ⟨by decide +kernel, rfl⟩
theorem eL_air_17 : am_d cL_air 17 (.astore 4) 2 19 := ⟨by decide +kernel, rfl⟩
theorem eL_air_19 : am_d cL_air 19 (.iconst 2) 1 20 := ⟨by decide +kernel, rfl⟩
theorem eL_air_20 : am_d cL_air 20 (.ireturn) 1 21 := ⟨by decide +kernel, rfl⟩
theorem eL_air_21 : am_d cL_air 21 (.iconst 0) 1 22 := ⟨by decide +kernel, rfl⟩
theorem eL_air_22 : am_d cL_air 22 (.ireturn) 1 23 := ⟨by decide +kernel, rfl⟩
theorem eL_tire_0 : am_d cL_tire 0 (.aload_n 3) 1 1 := ⟨by decide +kernel, rfl⟩
theorem eL_tire_1 : am_d cL_tire 1 (.iconst 0) 1 2 := ⟨by decide +kernel, rfl⟩
theorem eL_tire_2 : am_d cL_tire 2 (.aload_n 0) 1 3 := ⟨by decide +kernel, rfl⟩
theorem eL_tire_3 : am_d cL_tire 3 (.iload_n 1) 1 4 := ⟨by decide +kernel, rfl⟩
theorem eL_tire_4 : am_d cL_tire 4 (.iload_n 2) 1 5 := ⟨by decide +kernel, rfl⟩
theorem eL_tire_5 : am_d cL_tire 5 (.invokevirtual 26) 3 8 := ⟨by decide +kernel, rfl⟩
theorem eL_tire_8 : am_d cL_tire 8 (.i2l) 1 9 := ⟨by decide +kernel, rfl⟩
theorem eL_tire_9 : am_d cL_tire 9 (.lastore) 1 10 := ⟨by decide +kernel, rfl⟩
theorem eL_tire_10 : am_b cL_tire 10 (.goto 11) (11) 13 21 := ⟨by decide +kernel, rfl, by decide⟩
theorem eL_tire_13 : am_d cL_tire 13 (.astore 4) 2 15 := ⟨by decide +kernel, rfl⟩
theorem eL_tire_15 : am_d cL_tire 15 (.iconst 1) 1 16 := ⟨by decide +kernel, rfl⟩
theorem eL_tire_16 : am_d cL_tire 16 (.ireturn) 1 17 := ⟨by decide +kernel, rfl⟩
theorem eL_tire_17 : am_d cL_tire 17 (.astore 4) 2 19 := ⟨by decide +kernel, rfl⟩
theorem eL_tire_19 : am_d cL_tire 19 (.iconst 2) 1 20 := ⟨by decide +kernel, rfl⟩
theorem eL_tire_20 : am_d cL_tire 20 (.ireturn) 1 21 := ⟨by decide +kernel, rfl⟩
theorem eL_tire_21 : am_d cL_tire 21 (.iconst 0) 1 22 := ⟨by decide +kernel, rfl⟩
theorem eL_tire_22 : am_d cL_tire 22 (.ireturn) 1 23 := ⟨by decide +kernel, rfl⟩
theorem eL_seed_0 : am_d cL_seed 0 (.aload_n 2) 1 1 := ⟨by decide +kernel, rfl⟩
theorem eL_seed_1 : am_d cL_seed 1 (.iconst 0) 1 2 := ⟨by decide +kernel, rfl⟩
theorem eL_seed_2 : am_d cL_seed 2 (.aload_n 0) 1 3 := ⟨by decide +kernel, rfl⟩
theorem eL_seed_3 : am_d cL_seed 3 (.iload_n 1) 1 4 := ⟨by decide +kernel, rfl⟩
theorem eL_seed_4 : am_d cL_seed 4 (.invokevirtual 29) 3 7 := ⟨by decide +kernel, rfl⟩
theorem eL_seed_7 : am_d cL_seed 7 (.i2l) 1 8 := ⟨by decide +kernel, rfl⟩
theorem eL_seed_8 : am_d cL_seed 8 (.lastore) 1 9 := ⟨by decide +kernel, rfl⟩
theorem eL_seed_9 : am_b cL_seed 9 (.goto 6) (6) 12 15 := ⟨by decide +kernel, rfl, by decide⟩
theorem eL_seed_12 : am_d cL_seed 12 (.astore_n 3) 1 13 := ⟨by decide +kernel, rfl⟩
theorem eL_seed_13 : am_d cL_seed 13 (.iconst 1) 1 14 := ⟨by decide +kernel, rfl⟩
theorem eL_seed_14 : am_d cL_seed 14 (.ireturn) 1 15 := ⟨by decide +kernel, rfl⟩
theorem eL_seed_15 : am_d cL_seed 15 (.iconst 0) 1 16 := ⟨by decide +kernel, rfl⟩
theorem eL_seed_16 : am_d cL_seed 16 (.ireturn) 1 17 := ⟨by decide +kernel, rfl⟩
theorem eL_write_0 : am_d cL_write 0 (.aload 5) 2 2 := ⟨by decide +kernel, rfl⟩
theorem eL_write_2 : am_d cL_write 2 (.iconst 0) 1 3 := ⟨by decide +kernel, rfl⟩
theorem eL_write_3 : am_d cL_write 3 (.aload_n 0) 1 4 := ⟨by decide +kernel, rfl⟩
theorem eL_write_4 : am_d cL_write 4 (.iload_n 1) 1 5 := ⟨by decide +kernel, rfl⟩
theorem eL_write_5 : am_d cL_write 5 (.iload_n 2) 1 6 := ⟨by decide +kernel, rfl⟩
theorem eL_write_6 : am_d cL_write 6 (.iload_n 3) 1 7 := ⟨by decide +kernel, rfl⟩
theorem eL_write_7 : am_d cL_write 7 (.iload 4) 2 9 := ⟨by decide +kernel, rfl⟩
theorem eL_write_9 : am_d cL_write 9 (.invokevirtual 33) 3 12 := ⟨by decide +kernel, rfl⟩
theorem eL_write_12 : am_d cL_write 12 (.i2l) 1 13 := ⟨by decide +kernel, rfl⟩
theorem eL_write_13 : am_d cL_write 13 (.lastore) 1 14 := ⟨by decide +kernel, rfl⟩
theorem eL_write_14 : am_b cL_write 14 (.goto 15) (15) 17 29 := ⟨by decide +kernel, rfl, by decide⟩
theorem eL_write_17 : am_d cL_write 17 (.astore 6) 2 19 := ⟨by decide +kernel, rfl⟩
theorem eL_write_19 : am_d cL_write 19 (.iconst 1) 1 20 := ⟨by decide +kernel, rfl⟩
theorem eL_write_20 : am_d cL_write 20 (.ireturn) 1 21 := ⟨by decide +kernel, rfl⟩
theorem eL_write_21 : am_d cL_write 21 (.astore 6) 2 23 := ⟨by decide +kernel, rfl⟩
theorem eL_write_23 : am_d cL_write 23 (.iconst 2) 1 24 := ⟨by decide +kernel, rfl⟩
theorem eL_write_24 : am_d cL_write 24 (.ireturn) 1 25 := ⟨by decide +kernel, rfl⟩
theorem eL_write_25 : am_d cL_write 25 (.astore 6) 2 27 := ⟨by decide +kernel, rfl⟩
theorem eL_write_27 : am_d cL_write 27 (.iconst 3) 1 28 := ⟨by decide +kernel, rfl⟩
end
section
theorem eL_write_28 : am_d cL_write 28 (.ireturn) 1 29 := ⟨by decide +kernel, rfl⟩
theorem eL_write_29 : am_d cL_write 29 (.iconst 0) 1 30 := ⟨by decide +kernel, rfl⟩
theorem eL_write_30 : am_d cL_write 30 (.ireturn) 1 31 := ⟨by decide +kernel, rfl⟩
theorem eL_type_0 : am_d cL_type 0 (.aload_n 2) 1 1 := ⟨by decide +kernel, rfl⟩
theorem eL_type_1 : am_d cL_type 1 (.iconst 0) 1 2 := ⟨by decide +kernel, rfl⟩
theorem eL_type_2 : am_d cL_type 2 (.aload_n 0) 1 3 := ⟨by decide +kernel, rfl⟩
theorem eL_type_3 : am_d cL_type 3 (.iload_n 1) 1 4 := ⟨by decide +kernel, rfl⟩
theorem eL_type_4 : am_d cL_type 4 (.invokevirtual 37) 3 7 := ⟨by decide +kernel, rfl⟩
theorem eL_type_7 : am_d cL_type 7 (.i2l) 1 8 := ⟨by decide +kernel, rfl⟩
theorem eL_type_8 : am_d cL_type 8 (.lastore) 1 9 := ⟨by decide +kernel, rfl⟩
theorem eL_type_9 : am_b cL_type 9 (.goto 9) (9) 12 18 := ⟨by decide +kernel, rfl, by decide⟩
theorem eL_type_12 : am_d cL_type 12 (.astore_n 3) 1 13 := ⟨by decide +kernel, rfl⟩
theorem eL_type_13 : am_d cL_type 13 (.iconst 1) 1 14 := ⟨by decide +kernel, rfl⟩
theorem eL_type_14 : am_d cL_type 14 (.ireturn) 1 15 := ⟨by decide +kernel, rfl⟩
theorem eL_type_15 : am_d cL_type 15 (.astore_n 3) 1 16 := ⟨by decide +kernel, rfl⟩
theorem eL_type_16 : am_d cL_type 16 (.iconst 2) 1 17 := ⟨by decide +kernel, rfl⟩
theorem eL_type_17 : am_d cL_type 17 (.ireturn) 1 18 := ⟨by decide +kernel, rfl⟩
theorem eL_type_18 : am_d cL_type 18 (.iconst 0) 1 19 := ⟨by decide +kernel, rfl⟩
theorem eL_type_19 : am_d cL_type 19 (.ireturn) 1 20 := ⟨by decide +kernel, rfl⟩
theorem eL_send_0 : am_d cL_send 0 (.aload 4) 2 2 := ⟨by decide +kernel, rfl⟩
theorem eL_send_2 : am_d cL_send 2 (.iconst 0) 1 3 := ⟨by decide +kernel, rfl⟩
theorem eL_send_3 : am_d cL_send 3 (.aload_n 0) 1 4 := ⟨by decide +kernel, rfl⟩
theorem eL_send_4 : am_d cL_send 4 (.iload_n 1) 1 5 := ⟨by decide +kernel, rfl⟩
theorem eL_send_5 : am_d cL_send 5 (.iload_n 2) 1 6 := ⟨by decide +kernel, rfl⟩
theorem eL_send_6 : am_d cL_send 6 (.iload_n 3) 1 7 := ⟨by decide +kernel, rfl⟩
theorem eL_send_7 : am_d cL_send 7 (.invokevirtual 40) 3 10 := ⟨by decide +kernel, rfl⟩
theorem eL_send_10 : am_d cL_send 10 (.i2l) 1 11 := ⟨by decide +kernel, rfl⟩
theorem eL_send_11 : am_d cL_send 11 (.lastore) 1 12 := ⟨by decide +kernel, rfl⟩
theorem eL_send_12 : am_b cL_send 12 (.goto 11) (11) 15 23 := ⟨by decide +kernel, rfl, by decide⟩
theorem eL_send_15 : am_d cL_send 15 (.astore 5) 2 17 := ⟨by decide +kernel, rfl⟩
theorem eL_send_17 : am_d cL_send 17 (.iconst 1) 1 18 := ⟨by decide +kernel, rfl⟩
theorem eL_send_18 : am_d cL_send 18 (.ireturn) 1 19 := ⟨by decide +kernel, rfl⟩
theorem eL_send_19 : am_d cL_send 19 (.astore 5) 2 21 := ⟨by decide +kernel, rfl⟩
theorem eL_send_21 : am_d cL_send 21 (.iconst 2) 1 22 := ⟨by decide +kernel, rfl⟩
theorem eL_send_22 : am_d cL_send 22 (.ireturn) 1 23 := ⟨by decide +kernel, rfl⟩
theorem eL_send_23 : am_d cL_send 23 (.iconst 0) 1 24 := ⟨by decide +kernel, rfl⟩
theorem eL_send_24 : am_d cL_send 24 (.ireturn) 1 25 := ⟨by decide +kernel, rfl⟩
theorem eL_mark_0 : am_d cL_mark 0 (.aload 4) 2 2 := ⟨by decide +kernel, rfl⟩
theorem eL_mark_2 : am_d cL_mark 2 (.iconst 0) 1 3 := ⟨by decide +kernel, rfl⟩
theorem eL_mark_3 : am_d cL_mark 3 (.aload_n 0) 1 4 := ⟨by decide +kernel, rfl⟩
theorem eL_mark_4 : am_d cL_mark 4 (.iload_n 1) 1 5 := ⟨by decide +kernel, rfl⟩
theorem eL_mark_5 : am_d cL_mark 5 (.iload_n 2) 1 6 := ⟨by decide +kernel, rfl⟩
theorem eL_mark_6 : am_d cL_mark 6 (.iload_n 3) 1 7 := ⟨by decide +kernel, rfl⟩
theorem eL_mark_7 : am_d cL_mark 7 (.invokevirtual 44) 3 10 := ⟨by decide +kernel, rfl⟩
theorem eL_mark_10 : am_d cL_mark 10 (.i2l) 1 11 := ⟨by decide +kernel, rfl⟩
theorem eL_mark_11 : am_d cL_mark 11 (.lastore) 1 12 := ⟨by decide +kernel, rfl⟩
theorem eL_mark_12 : am_b cL_mark 12 (.goto 11) (11) 15 23 := ⟨by decide +kernel, rfl, by decide⟩
theorem eL_mark_15 : am_d cL_mark 15 (.astore 5) 2 17 := ⟨by decide +kernel, rfl⟩
theorem eL_mark_17 : am_d cL_mark 17 (.iconst 1) 1 18 := ⟨by decide +kernel, rfl⟩
theorem eL_mark_18 : am_d cL_mark 18 (.ireturn) 1 19 := ⟨by decide +kernel, rfl⟩
theorem eL_mark_19 : am_d cL_mark 19 (.astore 5) 2 21 := ⟨by decide +kernel, rfl⟩
theorem eL_mark_21 : am_d cL_mark 21 (.iconst 2) 1 22 := ⟨by decide +kernel, rfl⟩
theorem eL_mark_22 : am_d cL_mark 22 (.ireturn) 1 23 := ⟨by decide +kernel, rfl⟩
theorem eL_mark_23 : am_d cL_mark 23 (.iconst 0) 1 24 := ⟨by decide +kernel, rfl⟩
theorem eL_mark_24 : am_d cL_mark 24 (.ireturn) 1 25 := ⟨by decide +kernel, rfl⟩
theorem eL_spy_0 : am_d cL_spy 0 (.aload_n 2) 1 1 := ⟨by decide +kernel, rfl⟩
theorem eL_spy_1 : am_d cL_spy 1 (.iconst 0) 1 2 := ⟨by decide +kernel, rfl⟩
theorem eL_spy_2 : am_d cL_spy 2 (.aload_n 0) 1 3 := ⟨by decide +kernel, rfl⟩
theorem eL_spy_3 : am_d cL_spy 3 (.iload_n 1) 1 4 := ⟨by decide +kernel, rfl⟩
theorem eL_spy_4 : am_d cL_spy 4 (.invokevirtual 48) 3 7 := ⟨by decide +kernel, rfl⟩
theorem eL_spy_7 : am_d cL_spy 7 (.i2l) 1 8 := ⟨by decide +kernel, rfl⟩
theorem eL_spy_8 : am_d cL_spy 8 (.lastore) 1 9 := ⟨by decide +kernel, rfl⟩
theorem eL_spy_9 : am_b cL_spy 9 (.goto 9) (9) 12 18 := ⟨by decide +kernel, rfl, by decide⟩
theorem eL_spy_12 : am_d cL_spy 12 (.astore_n 3) 1 13 := ⟨by decide +kernel, rfl⟩
theorem eL_spy_13 : am_d cL_spy 13 (.iconst 1) 1 14 := ⟨by decide +kernel, rfl⟩
theorem eL_spy_14 : am_d cL_spy 14 (.ireturn) 1 15 := ⟨by decide +kernel, rfl⟩
theorem eL_spy_15 : am_d cL_spy 15 (.astore_n 3) 1 16 := ⟨by decide +kernel, rfl⟩
theorem eL_spy_16 : am_d cL_spy 16 (.iconst 2) 1 17 := ⟨by decide +kernel, rfl⟩
theorem eL_spy_17 : am_d cL_spy 17 (.ireturn) 1 18 := ⟨by decide +kernel, rfl⟩
theorem eL_spy_18 : am_d cL_spy 18 (.iconst 0) 1 19 := ⟨by decide +kernel, rfl⟩
theorem eL_spy_19 : am_d cL_spy 19 (.ireturn) 1 20 := ⟨by decide +kernel, rfl⟩
theorem eL_pass_0 : am_d cL_pass 0 (.aload_n 2) 1 1 := ⟨by decide +kernel, rfl⟩
theorem eL_pass_1 : am_d cL_pass 1 (.iconst 0) 1 2 := ⟨by decide +kernel, rfl⟩
theorem eL_pass_2 : am_d cL_pass 2 (.aload_n 0) 1 3 := ⟨by decide +kernel, rfl⟩
theorem eL_pass_3 : am_d cL_pass 3 (.iload_n 1) 1 4 := ⟨by decide +kernel, rfl⟩
theorem eL_pass_4 : am_d cL_pass 4 (.invokevirtual 51) 3 7 := ⟨by decide +kernel, rfl⟩
theorem eL_pass_7 : am_d cL_pass 7 (.i2l) 1 8 := ⟨by decide +kernel, rfl⟩
theorem eL_pass_8 : am_d cL_pass 8 (.lastore) 1 9 := ⟨by decide +kernel, rfl⟩
theorem eL_pass_9 : am_b cL_pass 9 (.goto 6) (6) 12 15 := ⟨by decide +kernel, rfl, by decide⟩
theorem eL_pass_12 : am_d cL_pass 12 (.astore_n 3) 1 13 := ⟨by decide +kernel, rfl⟩
theorem eL_pass_13 : am_d cL_pass 13 (.iconst 1) 1 14 := ⟨by decide +kernel, rfl⟩
theorem eL_pass_14 : am_d cL_pass 14 (.ireturn) 1 15 := ⟨by decide +kernel, rfl⟩
theorem eL_pass_15 : am_d cL_pass 15 (.iconst 0) 1 16 := ⟨by decide +kernel, rfl⟩
theorem eL_pass_16 : am_d cL_pass 16 (.ireturn) 1 17 := ⟨by decide +kernel, rfl⟩
theorem eL_sees_0 : am_d cL_sees 0 (.aload_n 2) 1 1 := ⟨by decide +kernel, rfl⟩
theorem eL_sees_1 : am_d cL_sees 1 (.iconst 0) 1 2 := ⟨by decide +kernel, rfl⟩
theorem eL_sees_2 : am_d cL_sees 2 (.aload_n 0) 1 3 := ⟨by decide +kernel, rfl⟩
theorem eL_sees_3 : am_d cL_sees 3 (.iload_n 1) 1 4 := ⟨by decide +kernel, rfl⟩
theorem eL_sees_4 : am_d cL_sees 4 (.invokevirtual 54) 3 7 := ⟨by decide +kernel, rfl⟩
theorem eL_sees_7 : am_b cL_sees 7 (.ifCond .eq 7) (7) 10 14 := ⟨by decide +kernel, rfl, by decide⟩
theorem eL_sees_10 : am_d cL_sees 10 (.lconst 1) 1 11 := ⟨by decide +kernel, rfl⟩
theorem eL_sees_11 : am_b cL_sees 11 (.goto 4) (4) 14 15 := ⟨by decide +kernel, rfl, by decide⟩
theorem eL_sees_14 : am_d cL_sees 14 (.lconst 0) 1 15 := ⟨by decide +kernel, rfl⟩
theorem eL_sees_15 : am_d cL_sees 15 (.lastore) 1 16 := ⟨by decide +kernel, rfl⟩
theorem eL_sees_16 : am_b cL_sees 16 (.goto 6) (6) 19 22 := ⟨by decide +kernel, rfl, by decide⟩
theorem eL_sees_19 : am_d cL_sees 19 (.astore_n 3) 1 20 := ⟨by decide +kernel, rfl⟩
theorem eL_sees_20 : am_d cL_sees 20 (.iconst 1) 1 21 := ⟨by decide +kernel, rfl⟩
theorem eL_sees_21 : am_d cL_sees 21 (.ireturn) 1 22 := ⟨by decide +kernel, rfl⟩
theorem eL_sees_22 : am_d cL_sees 22 (.iconst 0) 1 23 := ⟨by decide +kernel, rfl⟩
theorem eL_sees_23 : am_d cL_sees 23 (.ireturn) 1 24 := ⟨by decide +kernel, rfl⟩
theorem eL_shows_0 : am_d cL_shows 0 (.aload_n 3) 1 1 := ⟨by decide +kernel, rfl⟩
theorem eL_shows_1 : am_d cL_shows 1 (.iconst 0) 1 2 := ⟨by decide +kernel, rfl⟩
theorem eL_shows_2 : am_d cL_shows 2 (.aload_n 0) 1 3 := ⟨by decide +kernel, rfl⟩
theorem eL_shows_3 : am_d cL_shows 3 (.iload_n 1) 1 4 := ⟨by decide +kernel, rfl⟩
theorem eL_shows_4 : am_d cL_shows 4 (.iload_n 2) 1 5 := ⟨by decide +kernel, rfl⟩
theorem eL_shows_5 : am_d cL_shows 5 (.invokevirtual 58) 3 8 := ⟨by decide +kernel, rfl⟩
theorem eL_shows_8 : am_d cL_shows 8 (.i2l) 1 9 := ⟨by decide +kernel, rfl⟩
theorem eL_shows_9 : am_d cL_shows 9 (.lastore) 1 10 := ⟨by decide +kernel, rfl⟩
theorem eL_shows_10 : am_b cL_shows 10 (.goto 7) (7) 13 17 := ⟨by decide +kernel, rfl, by decide⟩
theorem eL_shows_13 : am_d cL_shows 13 (.astore 4) 2 15 := ⟨by decide +kernel, rfl⟩
theorem eL_shows_15 : am_d cL_shows 15 (.iconst 1) 1 16 := ⟨by decide +kernel, rfl⟩
theorem eL_shows_16 : am_d cL_shows 16 (.ireturn) 1 17 := ⟨by decide +kernel, rfl⟩
theorem eL_shows_17 : am_d cL_shows 17 (.iconst 0) 1 18 := ⟨by decide +kernel, rfl⟩
theorem eL_shows_18 : am_d cL_shows 18 (.ireturn) 1 19 := ⟨by decide +kernel, rfl⟩
theorem eL_keeps_0 : am_d cL_keeps 0 (.aload 4) 2 2 := ⟨by decide +kernel, rfl⟩
theorem eL_keeps_2 : am_d cL_keeps 2 (.iconst 0) 1 3 := ⟨by decide +kernel, rfl⟩
theorem eL_keeps_3 : am_d cL_keeps 3 (.aload_n 0) 1 4 := ⟨by decide +kernel, rfl⟩
theorem eL_keeps_4 : am_d cL_keeps 4 (.iload_n 1) 1 5 := ⟨by decide +kernel, rfl⟩
theorem eL_keeps_5 : am_d cL_keeps 5 (.iload_n 2) 1 6 := ⟨by decide +kernel, rfl⟩
theorem eL_keeps_6 : am_d cL_keeps 6 (.iload_n 3) 1 7 := ⟨by decide +kernel, rfl⟩
theorem eL_keeps_7 : am_d cL_keeps 7 (.invokevirtual 62) 3 10 := ⟨by decide +kernel, rfl⟩
theorem eL_keeps_10 : am_d cL_keeps 10 (.i2l) 1 11 := ⟨by decide +kernel, rfl⟩
theorem eL_keeps_11 : am_d cL_keeps 11 (.lastore) 1 12 := ⟨by decide +kernel, rfl⟩
theorem eL_keeps_12 : am_b cL_keeps 12 (.goto 7) (7) 15 19 := ⟨by decide +kernel, rfl, by decide⟩
theorem eL_keeps_15 : am_d cL_keeps 15 (.astore 5) 2 17 := ⟨by decide +kernel, rfl⟩
theorem eL_keeps_17 : am_d cL_keeps 17 (.iconst 1) 1 18 := ⟨by decide +kernel, rfl⟩
theorem eL_keeps_18 : am_d cL_keeps 18 (.ireturn) 1 19 := ⟨by decide +kernel, rfl⟩
theorem eL_keeps_19 : am_d cL_keeps 19 (.iconst 0) 1 20 := ⟨by decide +kernel, rfl⟩
theorem eL_keeps_20 : am_d cL_keeps 20 (.ireturn) 1 21 := ⟨by decide +kernel, rfl⟩
theorem eL_logs_0 : am_d cL_logs 0 (.aload_n 3) 1 1 := ⟨by decide +kernel, rfl⟩
theorem eL_logs_1 : am_d cL_logs 1 (.iconst 0) 1 2 := ⟨by decide +kernel, rfl⟩
theorem eL_logs_2 : am_d cL_logs 2 (.aload_n 0) 1 3 := ⟨by decide +kernel, rfl⟩
theorem eL_logs_3 : am_d cL_logs 3 (.iload_n 1) 1 4 := ⟨by decide +kernel, rfl⟩
theorem eL_logs_4 : am_d cL_logs 4 (.iload_n 2) 1 5 := ⟨by decide +kernel, rfl⟩
theorem eL_logs_5 : am_d cL_logs 5 (.invokevirtual 66) 3 8 := ⟨by decide +kernel, rfl⟩
theorem eL_logs_8 : am_d cL_logs 8 (.i2l) 1 9 := ⟨by decide +kernel, rfl⟩
theorem eL_logs_9 : am_d cL_logs 9 (.lastore) 1 10 := ⟨by decide +kernel, rfl⟩
theorem eL_logs_10 : am_b cL_logs 10 (.goto 7) (7) 13 17 := ⟨by decide +kernel, rfl, by decide⟩
theorem eL_logs_13 : am_d cL_logs 13 (.astore 4) 2 15 := ⟨by decide +kernel, rfl⟩
theorem eL_logs_15 : am_d cL_logs 15 (.iconst 1) 1 16 := ⟨by decide +kernel, rfl⟩
theorem eL_logs_16 : am_d cL_logs 16 (.ireturn) 1 17 := ⟨by decide +kernel, rfl⟩
theorem eL_logs_17 : am_d cL_logs 17 (.iconst 0) 1 18 := ⟨by decide +kernel, rfl⟩
theorem eL_logs_18 : am_d cL_logs 18 (.ireturn) 1 19 := ⟨by decide +kernel, rfl⟩
theorem eL_log_0 : am_d cL_log 0 (.aload 5) 2 2 := ⟨by decide +kernel, rfl⟩
theorem eL_log_2 : am_d cL_log 2 (.iconst 0) 1 3 := ⟨by decide +kernel, rfl⟩
theorem eL_log_3 : am_d cL_log 3 (.aload_n 0) 1 4 := ⟨by decide +kernel, rfl⟩
theorem eL_log_4 : am_d cL_log 4 (.iload_n 1) 1 5 := ⟨by decide +kernel, rfl⟩
theorem eL_log_5 : am_d cL_log 5 (.iload_n 2) 1 6 := ⟨by decide +kernel, rfl⟩
theorem eL_log_6 : am_d cL_log 6 (.iload_n 3) 1 7 := ⟨by decide +kernel, rfl⟩
theorem eL_log_7 : am_d cL_log 7 (.iload 4) 2 9 := ⟨by decide +kernel, rfl⟩
theorem eL_log_9 : am_d cL_log 9 (.invokevirtual 69) 3 12 := ⟨by decide +kernel, rfl⟩
theorem eL_log_12 : am_d cL_log 12 (.i2l) 1 13 := ⟨by decide +kernel, rfl⟩
theorem eL_log_13 : am_d cL_log 13 (.lastore) 1 14 := ⟨by decide +kernel, rfl⟩
theorem eL_log_14 : am_b cL_log 14 (.goto 11) (11) 17 25 := ⟨by decide +kernel, rfl, by decide⟩
theorem eL_log_17 : am_d cL_log 17 (.astore 6) 2 19 := ⟨by decide +kernel, rfl⟩
theorem eL_log_19 : am_d cL_log 19 (.iconst 1) 1 20 := ⟨by decide +kernel, rfl⟩
theorem eL_log_20 : am_d cL_log 20 (.ireturn) 1 21 := ⟨by decide +kernel, rfl⟩
theorem eL_log_21 : am_d cL_log 21 (.astore 6) 2 23 := ⟨by decide +kernel, rfl⟩
theorem eL_log_23 : am_d cL_log 23 (.iconst 2) 1 24 := ⟨by decide +kernel, rfl⟩
theorem eL_log_24 : am_d cL_log 24 (.ireturn) 1 25 := ⟨by decide +kernel, rfl⟩
theorem eL_log_25 : am_d cL_log 25 (.iconst 0) 1 26 := ⟨by decide +kernel, rfl⟩
theorem eL_log_26 : am_d cL_log 26 (.ireturn) 1 27 := ⟨by decide +kernel, rfl⟩
theorem eL_differs_0 : am_d cL_differs 0 (.aload 4) 2 2 := ⟨by decide +kernel, rfl⟩
theorem eL_differs_2 : am_d cL_differs 2 (.iconst 0) 1 3 := ⟨by decide +kernel, rfl⟩
theorem eL_differs_3 : am_d cL_differs 3 (.aload_n 0) 1 4 := ⟨by decide +kernel, rfl⟩
theorem eL_differs_4 : am_d cL_differs 4 (.iload_n 1) 1 5 := ⟨by decide +kernel, rfl⟩
theorem eL_differs_5 : am_d cL_differs 5 (.iload_n 2) 1 6 := ⟨by decide +kernel, rfl⟩
theorem eL_differs_6 : am_d cL_differs 6 (.iload_n 3) 1 7 := ⟨by decide +kernel, rfl⟩
theorem eL_differs_7 : am_d cL_differs 7 (.invokevirtual 73) 3 10 := ⟨by decide +kernel, rfl⟩
theorem eL_differs_10 : am_d cL_differs 10 (.i2l) 1 11 := ⟨by decide +kernel, rfl⟩
theorem eL_differs_11 : am_d cL_differs 11 (.lastore) 1 12 := ⟨by decide +kernel, rfl⟩
theorem eL_differs_12 : am_b cL_differs 12 (.goto 7) (7) 15 19 := ⟨by decide +kernel, rfl, by decide⟩
theorem eL_differs_15 : am_d cL_differs 15 (.astore 5) 2 17 := ⟨by decide +kernel, rfl⟩
theorem eL_differs_17 : am_d cL_differs 17 (.iconst 1) 1 18 := ⟨by decide +kernel, rfl⟩
theorem eL_differs_18 : am_d cL_differs 18 (.ireturn) 1 19 := ⟨by decide +kernel, rfl⟩
theorem eL_differs_19 : am_d cL_differs 19 (.iconst 0) 1 20 := ⟨by decide +kernel, rfl⟩
theorem eL_differs_20 : am_d cL_differs 20 (.ireturn) 1 21 := ⟨by decide +kernel, rfl⟩
theorem eL_told_0 : am_d cL_told 0 (.aload 4) 2 2 := ⟨by decide +kernel, rfl⟩
theorem eL_told_2 : am_d cL_told 2 (.iconst 0) 1 3 := ⟨by decide +kernel, rfl⟩
theorem eL_told_3 : am_d cL_told 3 (.aload_n 0) 1 4 := ⟨by decide +kernel, rfl⟩
theorem eL_told_4 : am_d cL_told 4 (.iload_n 1) 1 5 := ⟨by decide +kernel, rfl⟩
theorem eL_told_5 : am_d cL_told 5 (.iload_n 2) 1 6 := ⟨by decide +kernel, rfl⟩
theorem eL_told_6 : am_d cL_told 6 (.iload_n 3) 1 7 := ⟨by decide +kernel, rfl⟩
theorem eL_told_7 : am_d cL_told 7 (.invokevirtual 77) 3 10 := ⟨by decide +kernel, rfl⟩
theorem eL_told_10 : am_d cL_told 10 (.i2l) 1 11 := ⟨by decide +kernel, rfl⟩
theorem eL_told_11 : am_d cL_told 11 (.lastore) 1 12 := ⟨by decide +kernel, rfl⟩
theorem eL_told_12 : am_b cL_told 12 (.goto 11) (11) 15 23 := ⟨by decide +kernel, rfl, by decide⟩
theorem eL_told_15 : am_d cL_told 15 (.astore 5) 2 17 := ⟨by decide +kernel, rfl⟩
theorem eL_told_17 : am_d cL_told 17 (.iconst 1) 1 18 := ⟨by decide +kernel, rfl⟩
theorem eL_told_18 : am_d cL_told 18 (.ireturn) 1 19 := ⟨by decide +kernel, rfl⟩
theorem eL_told_19 : am_d cL_told 19 (.astore 5) 2 21 := ⟨by decide +kernel, rfl⟩
theorem eL_told_21 : am_d cL_told 21 (.iconst 2) 1 22 := ⟨by decide +kernel, rfl⟩
theorem eL_told_22 : am_d cL_told 22 (.ireturn) 1 23 := ⟨by decide +kernel, rfl⟩
theorem eL_told_23 : am_d cL_told 23 (.iconst 0) 1 24 := ⟨by decide +kernel, rfl⟩
theorem eL_told_24 : am_d cL_told 24 (.ireturn) 1 25 := ⟨by decide +kernel, rfl⟩
theorem eL_phrase_0 : am_d cL_phrase 0 (.aload 5) 2 2 := ⟨by decide +kernel, rfl⟩
theorem eL_phrase_2 : am_d cL_phrase 2 (.iconst 0) 1 3 := ⟨by decide +kernel, rfl⟩
theorem eL_phrase_3 : am_d cL_phrase 3 (.aload_n 0) 1 4 := ⟨by decide +kernel, rfl⟩
theorem eL_phrase_4 : am_d cL_phrase 4 (.iload_n 1) 1 5 := ⟨by decide +kernel, rfl⟩
theorem eL_phrase_5 : am_d cL_phrase 5 (.iload_n 2) 1 6 := ⟨by decide +kernel, rfl⟩
theorem eL_phrase_6 : am_d cL_phrase 6 (.iload_n 3) 1 7 := ⟨by decide +kernel, rfl⟩
theorem eL_phrase_7 : am_d cL_phrase 7 (.iload 4) 2 9 := ⟨by decide +kernel, rfl⟩
theorem eL_phrase_9 : am_d cL_phrase 9 (.invokevirtual 81) 3 12 := ⟨by decide +kernel, rfl⟩
theorem eL_phrase_12 : am_d cL_phrase 12 (.i2l) 1 13 := ⟨by decide +kernel, rfl⟩
theorem eL_phrase_13 : am_d cL_phrase 13 (.lastore) 1 14 := ⟨by decide +kernel, rfl⟩
theorem eL_phrase_14 : am_b cL_phrase 14 (.goto 7) (7) 17 21 := ⟨by decide +kernel, rfl, by decide⟩
theorem eL_phrase_17 : am_d cL_phrase 17 (.astore 6) 2 19 := ⟨by decide +kernel, rfl⟩
theorem eL_phrase_19 : am_d cL_phrase 19 (.iconst 1) 1 20 := ⟨by decide +kernel, rfl⟩
theorem eL_phrase_20 : am_d cL_phrase 20 (.ireturn) 1 21 := ⟨by decide +kernel, rfl⟩
theorem eL_phrase_21 : am_d cL_phrase 21 (.iconst 0) 1 22 := ⟨by decide +kernel, rfl⟩
theorem eL_phrase_22 : am_d cL_phrase 22 (.ireturn) 1 23 := ⟨by decide +kernel, rfl⟩
theorem eL_seen_0 : am_d cL_seen 0 (.aload_n 2) 1 1 := ⟨by decide +kernel, rfl⟩
theorem eL_seen_1 : am_d cL_seen 1 (.iconst 0) 1 2 := ⟨by decide +kernel, rfl⟩
theorem eL_seen_2 : am_d cL_seen 2 (.aload_n 0) 1 3 := ⟨by decide +kernel, rfl⟩
theorem eL_seen_3 : am_d cL_seen 3 (.iload_n 1) 1 4 := ⟨by decide +kernel, rfl⟩
theorem eL_seen_4 : am_d cL_seen 4 (.invokevirtual 85) 3 7 := ⟨by decide +kernel, rfl⟩
theorem eL_seen_7 : am_d cL_seen 7 (.i2l) 1 8 := ⟨by decide +kernel, rfl⟩
theorem eL_seen_8 : am_d cL_seen 8 (.lastore) 1 9 := ⟨by decide +kernel, rfl⟩
theorem eL_seen_9 : am_b cL_seen 9 (.goto 6) (6) 12 15 := ⟨by decide +kernel, rfl, by decide⟩
theorem eL_seen_12 : am_d cL_seen 12 (.astore_n 3) 1 13 := ⟨by decide +kernel, rfl⟩
theorem eL_seen_13 : am_d cL_seen 13 (.iconst 1) 1 14 := ⟨by decide +kernel, rfl⟩
theorem eL_seen_14 : am_d cL_seen 14 (.ireturn) 1 15 := ⟨by decide +kernel, rfl⟩
theorem eL_seen_15 : am_d cL_seen 15 (.iconst 0) 1 16 := ⟨by decide +kernel, rfl⟩
theorem eL_seen_16 : am_d cL_seen 16 (.ireturn) 1 17 := ⟨by decide +kernel, rfl⟩
theorem eL_tries_0 : am_d cL_tries 0 (.aload_n 3) 1 1 := ⟨by decide +kernel, rfl⟩
theorem eL_tries_1 : am_d cL_tries 1 (.iconst 0) 1 2 := ⟨by decide +kernel, rfl⟩
theorem eL_tries_2 : am_d cL_tries 2 (.aload_n 0) 1 3 := ⟨by decide +kernel, rfl⟩
theorem eL_tries_3 : am_d cL_tries 3 (.iload_n 1) 1 4 := ⟨by decide +kernel, rfl⟩
theorem eL_tries_4 : am_d cL_tries 4 (.iload_n 2) 1 5 := ⟨by decide +kernel, rfl⟩
theorem eL_tries_5 : am_d cL_tries 5 (.invokevirtual 88) 3 8 := ⟨by decide +kernel, rfl⟩
theorem eL_tries_8 : am_d cL_tries 8 (.i2l) 1 9 := ⟨by decide +kernel, rfl⟩
theorem eL_tries_9 : am_d cL_tries 9 (.lastore) 1 10 := ⟨by decide +kernel, rfl⟩
theorem eL_tries_10 : am_b cL_tries 10 (.goto 7) (7) 13 17 := ⟨by decide +kernel, rfl, by decide⟩
theorem eL_tries_13 : am_d cL_tries 13 (.astore 4) 2 15 := ⟨by decide +kernel, rfl⟩
theorem eL_tries_15 : am_d cL_tries 15 (.iconst 1) 1 16 := ⟨by decide +kernel, rfl⟩
theorem eL_tries_16 : am_d cL_tries 16 (.ireturn) 1 17 := ⟨by decide +kernel, rfl⟩
theorem eL_tries_17 : am_d cL_tries 17 (.iconst 0) 1 18 := ⟨by decide +kernel, rfl⟩
theorem eL_tries_18 : am_d cL_tries 18 (.ireturn) 1 19 := ⟨by decide +kernel, rfl⟩
theorem eL_comes_0 : am_d cL_comes 0 (.aload_n 2) 1 1 := ⟨by decide +kernel, rfl⟩
theorem eL_comes_1 : am_d cL_comes 1 (.iconst 0) 1 2 := ⟨by decide +kernel, rfl⟩
theorem eL_comes_2 : am_d cL_comes 2 (.aload_n 0) 1 3 := ⟨by decide +kernel, rfl⟩
theorem eL_comes_3 : am_d cL_comes 3 (.iload_n 1) 1 4 := ⟨by decide +kernel, rfl⟩
theorem eL_comes_4 : am_d cL_comes 4 (.invokevirtual 91) 3 7 := ⟨by decide +kernel, rfl⟩
theorem eL_comes_7 : am_d cL_comes 7 (.i2l) 1 8 := ⟨by decide +kernel, rfl⟩
theorem eL_comes_8 : am_d cL_comes 8 (.lastore) 1 9 := ⟨by decide +kernel, rfl⟩
theorem eL_comes_9 : am_b cL_comes 9 (.goto 6) (6) 12 15 := ⟨by decide +kernel, rfl, by decide⟩
theorem eL_comes_12 : am_d cL_comes 12 (.astore_n 3) 1 13 := ⟨by decide +kernel, rfl⟩
theorem eL_comes_13 : am_d cL_comes 13 (.iconst 1) 1 14 := ⟨by decide +kernel, rfl⟩
theorem eL_comes_14 : am_d cL_comes 14 (.ireturn) 1 15 := ⟨by decide +kernel, rfl⟩
theorem eL_comes_15 : am_d cL_comes 15 (.iconst 0) 1 16 := ⟨by decide +kernel, rfl⟩
theorem eL_comes_16 : am_d cL_comes 16 (.ireturn) 1 17 := ⟨by decide +kernel, rfl⟩
theorem eL_comesAnew_0 : am_d cL_comesAnew 0 (.aload_n 2) 1 1 := ⟨by decide +kernel, rfl⟩
theorem eL_comesAnew_1 : am_d cL_comesAnew 1 (.iconst 0) 1 2 := ⟨by decide +kernel, rfl⟩
theorem eL_comesAnew_2 : am_d cL_comesAnew 2 (.aload_n 0) 1 3 := ⟨by decide +kernel, rfl⟩
theorem eL_comesAnew_3 : am_d cL_comesAnew 3 (.iload_n 1) 1 4 := ⟨by decide +kernel, rfl⟩
theorem eL_comesAnew_4 : am_d cL_comesAnew 4 (.invokevirtual 94) 3 7 := ⟨by decide +kernel, rfl⟩
theorem eL_comesAnew_7 : am_d cL_comesAnew 7 (.i2l) 1 8 := ⟨by decide +kernel, rfl⟩
theorem eL_comesAnew_8 : am_d cL_comesAnew 8 (.lastore) 1 9 := ⟨by decide +kernel, rfl⟩
theorem eL_comesAnew_9 : am_b cL_comesAnew 9 (.goto 6) (6) 12 15 := ⟨by decide +kernel, rfl, by decide⟩
theorem eL_comesAnew_12 : am_d cL_comesAnew 12 (.astore_n 3) 1 13 := ⟨by decide +kernel, rfl⟩
theorem eL_comesAnew_13 : am_d cL_comesAnew 13 (.iconst 1) 1 14 := ⟨by decide +kernel, rfl⟩
theorem eL_comesAnew_14 : am_d cL_comesAnew 14 (.ireturn) 1 15 := ⟨by decide +kernel, rfl⟩
theorem eL_comesAnew_15 : am_d cL_comesAnew 15 (.iconst 0) 1 16 := ⟨by decide +kernel, rfl⟩
theorem eL_comesAnew_16 : am_d cL_comesAnew 16 (.ireturn) 1 17 := ⟨by decide +kernel, rfl⟩
theorem eL_law_0 : am_d cL_law 0 (.new 8) 3 3 := ⟨by decide +kernel, rfl⟩
theorem eL_law_3 : am_d cL_law 3 (.dup) 1 4 := ⟨by decide +kernel, rfl⟩
theorem eL_law_4 : am_d cL_law 4 (.invokespecial 97) 3 7 := ⟨by decide +kernel, rfl⟩
theorem eL_law_7 : am_d cL_law 7 (.astore_n 1) 1 8 := ⟨by decide +kernel, rfl⟩
theorem eL_law_8 : am_d cL_law 8 (.new 98) 3 11 := ⟨by decide +kernel, rfl⟩
theorem eL_law_11 : am_d cL_law 11 (.dup) 1 12 := ⟨by decide +kernel, rfl⟩
theorem eL_law_12 : am_d cL_law 12 (.invokespecial 100) 3 15 := ⟨by decide +kernel, rfl⟩
theorem eL_law_15 : am_d cL_law 15 (.astore_n 2) 1 16 := ⟨by decide +kernel, rfl⟩
theorem eL_law_16 : am_d cL_law 16 (.iconst 1) 1 17 := ⟨by decide +kernel, rfl⟩
theorem eL_law_17 : am_d cL_law 17 (.newarray .long) 2 19 := ⟨by decide +kernel, rfl⟩
theorem eL_law_19 : am_d cL_law 19 (.astore_n 3) 1 20 := ⟨by decide +kernel, rfl⟩
theorem eL_law_20 : am_d cL_law 20 (.iconst 0) 1 21 := ⟨by decide +kernel, rfl⟩
theorem eL_law_21 : am_d cL_law 21 (.istore 4) 2 23 := ⟨by decide +kernel, rfl⟩
theorem eL_law_23 : am_d cL_law 23 (.iload 4) 2 25 := ⟨by decide +kernel, rfl⟩
theorem eL_law_25 : am_d cL_law 25 (.aload_n 0) 1 26 := ⟨by decide +kernel, rfl⟩
theorem eL_law_26 : am_d cL_law 26 (.arraylength) 1 27 := ⟨by decide +kernel, rfl⟩
theorem eL_law_27 : am_d cL_law 27 (.iconst 5) 1 28 := ⟨by decide +kernel, rfl⟩
theorem eL_law_28 : am_d cL_law 28 (.isub) 1 29 := ⟨by decide +kernel, rfl⟩
theorem eL_law_29 : am_b cL_law 29 (.if_icmp .gt 2057) (2057) 32 2086 := ⟨by decide +kernel, rfl, by decide⟩
theorem eL_law_32 : am_d cL_law 32 (.aload_n 0) 1 33 := ⟨by decide +kernel, rfl⟩
theorem eL_law_33 : am_d cL_law 33 (.iload 4) 2 35 := ⟨by decide +kernel, rfl⟩
theorem eL_law_35 : am_d cL_law 35 (.iaload) 1 36 := ⟨by decide +kernel, rfl⟩
theorem eL_law_36 : am_d cL_law 36 (.bipush 31) 2 38 := ⟨by decide +kernel, rfl⟩
theorem eL_law_38 : am_d cL_law 38 (.iand) 1 39 := ⟨by decide +kernel, rfl⟩
theorem eL_law_39 : decode cL_law 39 = .ok (.tableswitch 2041 0 27 #[125, 193, 273, 341, 409, 465, 557, 613, 626, 738, 850, 906, 962, 975, 988, 1051, 1135, 1231, 1315, 1423, 1519, 1560, 1656, 1764, 1805, 1861, 1929, 1985], 125) := by decide +kernel
theorem eL_law_164 : am_d cL_law 164 (.aload_n 1) 1 165 := ⟨by decide +kernel, rfl⟩
theorem eL_law_165 : am_d cL_law 165 (.aload_n 0) 1 166 := ⟨by decide +kernel, rfl⟩
theorem eL_law_166 : am_d cL_law 166 (.iload 4) 2 168 := ⟨by decide +kernel, rfl⟩
theorem eL_law_168 : am_d cL_law 168 (.iconst 1) 1 169 := ⟨by decide +kernel, rfl⟩
theorem eL_law_169 : am_d cL_law 169 (.iadd) 1 170 := ⟨by decide +kernel, rfl⟩
theorem eL_law_170 : am_d cL_law 170 (.iaload) 1 171 := ⟨by decide +kernel, rfl⟩
theorem eL_law_171 : am_d cL_law 171 (.aload_n 0) 1 172 := ⟨by decide +kernel, rfl⟩
theorem eL_law_172 : am_d cL_law 172 (.iload 4) 2 174 := ⟨by decide +kernel, rfl⟩
theorem eL_law_174 : am_d cL_law 174 (.iconst 2) 1 175 := ⟨by decide +kernel, rfl⟩
theorem eL_law_175 : am_d cL_law 175 (.iadd) 1 176 := ⟨by decide +kernel, rfl⟩
theorem eL_law_176 : am_d cL_law 176 (.iaload) 1 177 := ⟨by decide +kernel, rfl⟩
theorem eL_law_177 : am_d cL_law 177 (.aload_n 3) 1 178 := ⟨by decide +kernel, rfl⟩
theorem eL_law_178 : am_d cL_law 178 (.invokestatic 101) 3 181 := ⟨by decide +kernel, rfl⟩
theorem eL_law_181 : am_d cL_law 181 (.istore 5) 2 183 := ⟨by decide +kernel, rfl⟩
theorem eL_law_183 : am_d cL_law 183 (.aload_n 2) 1 184 := ⟨by decide +kernel, rfl⟩
theorem eL_law_184 : am_d cL_law 184 (.aload_n 0) 1 185 := ⟨by decide +kernel, rfl⟩
theorem eL_law_185 : am_d cL_law 185 (.iload 4) 2 187 := ⟨by decide +kernel, rfl⟩
theorem eL_law_187 : am_d cL_law 187 (.iconst 1) 1 188 := ⟨by decide +kernel, rfl⟩
theorem eL_law_188 : am_d cL_law 188 (.iadd) 1 189 := ⟨by decide +kernel, rfl⟩
theorem eL_law_189 : am_d cL_law 189 (.iaload) 1 190 := ⟨by decide +kernel, rfl⟩
theorem eL_law_190 : am_d cL_law 190 (.aload_n 0) 1 191 := ⟨by decide +kernel, rfl⟩
theorem eL_law_191 : am_d cL_law 191 (.iload 4) 2 193 := ⟨by decide +kernel, rfl⟩
theorem eL_law_193 : am_d cL_law 193 (.iconst 2) 1 194 := ⟨by decide +kernel, rfl⟩
theorem eL_law_194 : am_d cL_law 194 (.iadd) 1 195 := ⟨by decide +kernel, rfl⟩
theorem eL_law_195 : am_d cL_law 195 (.iaload) 1 196 := ⟨by decide +kernel, rfl⟩
theorem eL_law_196 : am_d cL_law 196 (.invokevirtual 106) 3 199 := ⟨by decide +kernel, rfl⟩
theorem eL_law_199 : am_d cL_law 199 (.istore 6) 2 201 := ⟨by decide +kernel, rfl⟩
theorem eL_law_201 : am_d cL_law 201 (.aload_n 2) 1 202 := ⟨by decide +kernel, rfl⟩
theorem eL_law_202 : am_d cL_law 202 (.invokevirtual 107) 3 205 := ⟨by decide +kernel, rfl⟩
theorem eL_law_205 : am_d cL_law 205 (.iload 5) 2 207 := ⟨by decide +kernel, rfl⟩
theorem eL_law_207 : am_b cL_law 207 (.if_icmp .eq 5) (5) 210 212 := ⟨by decide +kernel, rfl, by decide⟩
theorem eL_law_210 : am_d cL_law 210 (.iconst 0) 1 211 := ⟨by decide +kernel, rfl⟩
theorem eL_law_211 : am_d cL_law 211 (.ireturn) 1 212 := ⟨by decide +kernel, rfl⟩
theorem eL_law_212 : am_d cL_law 212 (.iload 5) 2 214 := ⟨by decide +kernel, rfl⟩
theorem eL_law_214 : am_b cL_law 214 (.ifCond .ne 15) (15) 217 229 := ⟨by decide +kernel, rfl, by decide⟩
theorem eL_law_217 : am_d cL_law 217 (.aload_n 3) 1 218 := ⟨by decide +kernel, rfl⟩
theorem eL_law_218 : am_d cL_law 218 (.iconst 0) 1 219 := ⟨by decide +kernel, rfl⟩
theorem eL_law_219 : am_d cL_law 219 (.laload) 1 220 := ⟨by decide +kernel, rfl⟩
theorem eL_law_220 : am_d cL_law 220 (.iload 6) 2 222 := ⟨by decide +kernel, rfl⟩
theorem eL_law_222 : am_d cL_law 222 (.i2l) 1 223 := ⟨by decide +kernel, rfl⟩
theorem eL_law_223 : am_d cL_law 223 (.lcmp) 1 224 := ⟨by decide +kernel, rfl⟩
theorem eL_law_224 : am_b cL_law 224 (.ifCond .eq 5) (5) 227 229 := ⟨by decide +kernel, rfl, by decide⟩
theorem eL_law_227 : am_d cL_law 227 (.iconst 0) 1 228 := ⟨by decide +kernel, rfl⟩
theorem eL_law_228 : am_d cL_law 228 (.ireturn) 1 229 := ⟨by decide +kernel, rfl⟩
theorem eL_law_229 : am_b cL_law 229 (.goto 1851) (1851) 232 2080 := ⟨by decide +kernel, rfl, by decide⟩
theorem eL_law_232 : am_d cL_law 232 (.aload_n 1) 1 233 := ⟨by decide +kernel, rfl⟩
theorem eL_law_233 : am_d cL_law 233 (.aload_n 0) 1 234 := ⟨by decide +kernel, rfl⟩
theorem eL_law_234 : am_d cL_law 234 (.iload 4) 2 236 := ⟨by decide +kernel, rfl⟩
theorem eL_law_236 : am_d cL_law 236 (.iconst 1) 1 237 := ⟨by decide +kernel, rfl⟩
theorem eL_law_237 : am_d cL_law 237 (.iadd) 1 238 := ⟨by decide +kernel, rfl⟩
theorem eL_law_238 : am_d cL_law 238 (.iaload) 1 239 := ⟨by decide +kernel, rfl⟩
theorem eL_law_239 : am_d cL_law 239 (.aload_n 0) 1 240 := ⟨by decide +kernel, rfl⟩
theorem eL_law_240 : am_d cL_law 240 (.iload 4) 2 242 := ⟨by decide +kernel, rfl⟩
theorem eL_law_242 : am_d cL_law 242 (.iconst 2) 1 243 := ⟨by decide +kernel, rfl⟩
theorem eL_law_243 : am_d cL_law 243 (.iadd) 1 244 := ⟨by decide +kernel, rfl⟩
theorem eL_law_244 : am_d cL_law 244 (.iaload) 1 245 := ⟨by decide +kernel, rfl⟩
theorem eL_law_245 : am_d cL_law 245 (.aload_n 0) 1 246 := ⟨by decide +kernel, rfl⟩
theorem eL_law_246 : am_d cL_law 246 (.iload 4) 2 248 := ⟨by decide +kernel, rfl⟩
theorem eL_law_248 : am_d cL_law 248 (.iconst 3) 1 249 := ⟨by decide +kernel, rfl⟩
theorem eL_law_249 : am_d cL_law 249 (.iadd) 1 250 := ⟨by decide +kernel, rfl⟩
theorem eL_law_250 : am_d cL_law 250 (.iaload) 1 251 := ⟨by decide +kernel, rfl⟩
theorem eL_law_251 : am_d cL_law 251 (.aload_n 3) 1 252 := ⟨by decide +kernel, rfl⟩
theorem eL_law_252 : am_d cL_law 252 (.invokestatic 111) 3 255 := ⟨by decide +kernel, rfl⟩
theorem eL_law_255 : am_d cL_law 255 (.istore 5) 2 257 := ⟨by decide +kernel, rfl⟩
theorem eL_law_257 : am_d cL_law 257 (.aload_n 2) 1 258 := ⟨by decide +kernel, rfl⟩
theorem eL_law_258 : am_d cL_law 258 (.aload_n 0) 1 259 := ⟨by decide +kernel, rfl⟩
theorem eL_law_259 : am_d cL_law 259 (.iload 4) 2 261 := ⟨by decide +kernel, rfl⟩
theorem eL_law_261 : am_d cL_law 261 (.iconst 1) 1 262 := ⟨by decide +kernel, rfl⟩
theorem eL_law_262 : am_d cL_law 262 (.iadd) 1 263 := ⟨by decide +kernel, rfl⟩
theorem eL_law_263 : am_d cL_law 263 (.iaload) 1 264 := ⟨by decide +kernel, rfl⟩
theorem eL_law_264 : am_d cL_law 264 (.aload_n 0) 1 265 := ⟨by decide +kernel, rfl⟩
theorem eL_law_265 : am_d cL_law 265 (.iload 4) 2 267 := ⟨by decide +kernel, rfl⟩
theorem eL_law_267 : am_d cL_law 267 (.iconst 2) 1 268 := ⟨by decide +kernel, rfl⟩
theorem eL_law_268 : am_d cL_law 268 (.iadd) 1 269 := ⟨by decide +kernel, rfl⟩
theorem eL_law_269 : am_d cL_law 269 (.iaload) 1 270 := ⟨by decide +kernel, rfl⟩
theorem eL_law_270 : am_d cL_law 270 (.aload_n 0) 1 271 := ⟨by decide +kernel, rfl⟩
theorem eL_law_271 : am_d cL_law 271 (.iload 4) 2 273 := ⟨by decide +kernel, rfl⟩
theorem eL_law_273 : am_d cL_law 273 (.iconst 3) 1 274 := ⟨by decide +kernel, rfl⟩
theorem eL_law_274 : am_d cL_law 274 (.iadd) 1 275 := ⟨by decide +kernel, rfl⟩
theorem eL_law_275 : am_d cL_law 275 (.iaload) 1 276 := ⟨by decide +kernel, rfl⟩
theorem eL_law_276 : am_d cL_law 276 (.invokevirtual 114) 3 279 := ⟨by decide +kernel, rfl⟩
theorem eL_law_279 : am_d cL_law 279 (.istore 6) 2 281 := ⟨by decide +kernel, rfl⟩
theorem eL_law_281 : am_d cL_law 281 (.aload_n 2) 1 282 := ⟨by decide +kernel, rfl⟩
theorem eL_law_282 : am_d cL_law 282 (.invokevirtual 107) 3 285 := ⟨by decide +kernel, rfl⟩
theorem eL_law_285 : am_d cL_law 285 (.iload 5) 2 287 := ⟨by decide +kernel, rfl⟩
theorem eL_law_287 : am_b cL_law 287 (.if_icmp .eq 5) (5) 290 292 := ⟨by decide +kernel, rfl, by decide⟩
theorem eL_law_290 : am_d cL_law 290 (.iconst 0) 1 291 := ⟨by decide +kernel, rfl⟩
theorem eL_law_291 : am_d cL_law 291 (.ireturn) 1 292 := ⟨by decide +kernel, rfl⟩
theorem eL_law_292 : am_d cL_law 292 (.iload 5) 2 294 := ⟨by decide +kernel, rfl⟩
theorem eL_law_294 : am_b cL_law 294 (.ifCond .ne 15) (15) 297 309 := ⟨by decide +kernel, rfl, by decide⟩
theorem eL_law_297 : am_d cL_law 297 (.aload_n 3) 1 298 := ⟨by decide +kernel, rfl⟩
theorem eL_law_298 : am_d cL_law 298 (.iconst 0) 1 299 := ⟨by decide +kernel, rfl⟩
theorem eL_law_299 : am_d cL_law 299 (.laload) 1 300 := ⟨by decide +kernel, rfl⟩
theorem eL_law_300 : am_d cL_law 300 (.iload 6) 2 302 := ⟨by decide +kernel, rfl⟩
theorem eL_law_302 : am_d cL_law 302 (.i2l) 1 303 := ⟨by decide +kernel, rfl⟩
theorem eL_law_303 : am_d cL_law 303 (.lcmp) 1 304 := ⟨by decide +kernel, rfl⟩
theorem eL_law_304 : am_b cL_law 304 (.ifCond .eq 5) (5) 307 309 := ⟨by decide +kernel, rfl, by decide⟩
theorem eL_law_307 : am_d cL_law 307 (.iconst 0) 1 308 := ⟨by decide +kernel, rfl⟩
theorem eL_law_308 : am_d cL_law 308 (.ireturn) 1 309 := ⟨by decide +kernel, rfl⟩
theorem eL_law_309 : am_b cL_law 309 (.goto 1771) (1771) 312 2080 := ⟨by decide +kernel, rfl, by decide⟩
theorem eL_law_312 : am_d cL_law 312 (.aload_n 1) 1 313 := ⟨by decide +kernel, rfl⟩
theorem eL_law_313 : am_d cL_law 313 (.aload_n 0) 1 314 := ⟨by decide +kernel, rfl⟩
theorem eL_law_314 : am_d cL_law 314 (.iload 4) 2 316 := ⟨by decide +kernel, rfl⟩
theorem eL_law_316 : am_d cL_law 316 (.iconst 1) 1 317 := ⟨by decide +kernel, rfl⟩
theorem eL_law_317 : am_d cL_law 317 (.iadd) 1 318 := ⟨by decide +kernel, rfl⟩
theorem eL_law_318 : am_d cL_law 318 (.iaload) 1 319 := ⟨by decide +kernel, rfl⟩
theorem eL_law_319 : am_d cL_law 319 (.aload_n 0) 1 320 := ⟨by decide +kernel, rfl⟩
theorem eL_law_320 : am_d cL_law 320 (.iload 4) 2 322 := ⟨by decide +kernel, rfl⟩
theorem eL_law_322 : am_d cL_law 322 (.iconst 2) 1 323 := ⟨by decide +kernel, rfl⟩
theorem eL_law_323 : am_d cL_law 323 (.iadd) 1 324 := ⟨by decide +kernel, rfl⟩
theorem eL_law_324 : am_d cL_law 324 (.iaload) 1 325 := ⟨by decide +kernel, rfl⟩
theorem eL_law_325 : am_d cL_law 325 (.aload_n 3) 1 326 := ⟨by decide +kernel, rfl⟩
theorem eL_law_326 : am_d cL_law 326 (.invokestatic 115) 3 329 := ⟨by decide +kernel, rfl⟩
theorem eL_law_329 : am_d cL_law 329 (.istore 5) 2 331 := ⟨by decide +kernel, rfl⟩
theorem eL_law_331 : am_d cL_law 331 (.aload_n 2) 1 332 := ⟨by decide +kernel, rfl⟩
theorem eL_law_332 : am_d cL_law 332 (.aload_n 0) 1 333 := ⟨by decide +kernel, rfl⟩
theorem eL_law_333 : am_d cL_law 333 (.iload 4) 2 335 := ⟨by decide +kernel, rfl⟩
theorem eL_law_335 : am_d cL_law 335 (.iconst 1) 1 336 := ⟨by decide +kernel, rfl⟩
theorem eL_law_336 : am_d cL_law 336 (.iadd) 1 337 := ⟨by decide +kernel, rfl⟩
theorem eL_law_337 : am_d cL_law 337 (.iaload) 1 338 := ⟨by decide +kernel, rfl⟩
theorem eL_law_338 : am_d cL_law 338 (.aload_n 0) 1 339 := ⟨by decide +kernel, rfl⟩
theorem eL_law_339 : am_d cL_law 339 (.iload 4) 2 341 := ⟨by decide +kernel, rfl⟩
theorem eL_law_341 : am_d cL_law 341 (.iconst 2) 1 342 := ⟨by decide +kernel, rfl⟩
theorem eL_law_342 : am_d cL_law 342 (.iadd) 1 343 := ⟨by decide +kernel, rfl⟩
theorem eL_law_343 : am_d cL_law 343 (.iaload) 1 344 := ⟨by decide +kernel, rfl⟩
theorem eL_law_344 : am_d cL_law 344 (.invokevirtual 117) 3 347 := ⟨by decide +kernel, rfl⟩
theorem eL_law_347 : am_d cL_law 347 (.istore 6) 2 349 := ⟨by decide +kernel, rfl⟩
theorem eL_law_349 : am_d cL_law 349 (.aload_n 2) 1 350 := ⟨by decide +kernel, rfl⟩
theorem eL_law_350 : am_d cL_law 350 (.invokevirtual 107) 3 353 := ⟨by decide +kernel, rfl⟩
theorem eL_law_353 : am_d cL_law 353 (.iload 5) 2 355 := ⟨by decide +kernel, rfl⟩
theorem eL_law_355 : am_b cL_law 355 (.if_icmp .eq 5) (5) 358 360 := ⟨by decide +kernel, rfl, by decide⟩
theorem eL_law_358 : am_d cL_law 358 (.iconst 0) 1 359 := ⟨by decide +kernel, rfl⟩
theorem eL_law_359 : am_d cL_law 359 (.ireturn) 1 360 := ⟨by decide +kernel, rfl⟩
theorem eL_law_360 : am_d cL_law 360 (.iload 5) 2 362 := ⟨by decide +kernel, rfl⟩
theorem eL_law_362 : am_b cL_law 362 (.ifCond .ne 15) (15) 365 377 := ⟨by decide +kernel, rfl, by decide⟩
theorem eL_law_365 : am_d cL_law 365 (.aload_n 3) 1 366 := ⟨by decide +kernel, rfl⟩
theorem eL_law_366 : am_d cL_law 366 (.iconst 0) 1 367 := ⟨by decide +kernel, rfl⟩
theorem eL_law_367 : am_d cL_law 367 (.laload) 1 368 := ⟨by decide +kernel, rfl⟩
theorem eL_law_368 : am_d cL_law 368 (.iload 6) 2 370 := ⟨by decide +kernel, rfl⟩
theorem eL_law_370 : am_d cL_law 370 (.i2l) 1 371 := ⟨by decide +kernel, rfl⟩
theorem eL_law_371 : am_d cL_law 371 (.lcmp) 1 372 := ⟨by decide +kernel, rfl⟩
theorem eL_law_372 : am_b cL_law 372 (.ifCond .eq 5) (5) 375 377 := ⟨by decide +kernel, rfl, by decide⟩
theorem eL_law_375 : am_d cL_law 375 (.iconst 0) 1 376 := ⟨by decide +kernel, rfl⟩
theorem eL_law_376 : am_d cL_law 376 (.ireturn) 1 377 := ⟨by decide +kernel, rfl⟩
theorem eL_law_377 : am_b cL_law 377 (.goto 1703) (1703) 380 2080 := ⟨by decide +kernel, rfl, by decide⟩
theorem eL_law_380 : am_d cL_law 380 (.aload_n 1) 1 381 := ⟨by decide +kernel, rfl⟩
theorem eL_law_381 : am_d cL_law 381 (.aload_n 0) 1 382 := ⟨by decide +kernel, rfl⟩
theorem eL_law_382 : am_d cL_law 382 (.iload 4) 2 384 := ⟨by decide +kernel, rfl⟩
theorem eL_law_384 : am_d cL_law 384 (.iconst 1) 1 385 := ⟨by decide +kernel, rfl⟩
theorem eL_law_385 : am_d cL_law 385 (.iadd) 1 386 := ⟨by decide +kernel, rfl⟩
theorem eL_law_386 : am_d cL_law 386 (.iaload) 1 387 := ⟨by decide +kernel, rfl⟩
theorem eL_law_387 : am_d cL_law 387 (.aload_n 0) 1 388 := ⟨by decide +kernel, rfl⟩
theorem eL_law_388 : am_d cL_law 388 (.iload 4) 2 390 := ⟨by decide +kernel, rfl⟩
theorem eL_law_390 : am_d cL_law 390 (.iconst 2) 1 391 := ⟨by decide +kernel, rfl⟩
theorem eL_law_391 : am_d cL_law 391 (.iadd) 1 392 := ⟨by decide +kernel, rfl⟩
theorem eL_law_392 : am_d cL_law 392 (.iaload) 1 393 := ⟨by decide +kernel, rfl⟩
theorem eL_law_393 : am_d cL_law 393 (.aload_n 3) 1 394 := ⟨by decide +kernel, rfl⟩
theorem eL_law_394 : am_d cL_law 394 (.invokestatic 118) 3 397 := ⟨by decide +kernel, rfl⟩
theorem eL_law_397 : am_d cL_law 397 (.istore 5) 2 399 := ⟨by decide +kernel, rfl⟩
theorem eL_law_399 : am_d cL_law 399 (.aload_n 2) 1 400 := ⟨by decide +kernel, rfl⟩
theorem eL_law_400 : am_d cL_law 400 (.aload_n 0) 1 401 := ⟨by decide +kernel, rfl⟩
theorem eL_law_401 : am_d cL_law 401 (.iload 4) 2 403 := ⟨by decide +kernel, rfl⟩
theorem eL_law_403 : am_d cL_law 403 (.iconst 1) 1 404 := ⟨by decide +kernel, rfl⟩
theorem eL_law_404 : am_d cL_law 404 (.iadd) 1 405 := ⟨by decide +kernel, rfl⟩
theorem eL_law_405 : am_d cL_law 405 (.iaload) 1 406 := ⟨by decide +kernel, rfl⟩
theorem eL_law_406 : am_d cL_law 406 (.aload_n 0) 1 407 := ⟨by decide +kernel, rfl⟩
theorem eL_law_407 : am_d cL_law 407 (.iload 4) 2 409 := ⟨by decide +kernel, rfl⟩
theorem eL_law_409 : am_d cL_law 409 (.iconst 2) 1 410 := ⟨by decide +kernel, rfl⟩
theorem eL_law_410 : am_d cL_law 410 (.iadd) 1 411 := ⟨by decide +kernel, rfl⟩
theorem eL_law_411 : am_d cL_law 411 (.iaload) 1 412 := ⟨by decide +kernel, rfl⟩
theorem eL_law_412 : am_d cL_law 412 (.invokevirtual 120) 3 415 := ⟨by decide +kernel, rfl⟩
theorem eL_law_415 : am_d cL_law 415 (.istore 6) 2 417 := ⟨by decide +kernel, rfl⟩
theorem eL_law_417 : am_d cL_law 417 (.aload_n 2) 1 418 := ⟨by decide +kernel, rfl⟩
theorem eL_law_418 : am_d cL_law 418 (.invokevirtual 107) 3 421 := ⟨by decide +kernel, rfl⟩
theorem eL_law_421 : am_d cL_law 421 (.iload 5) 2 423 := ⟨by decide +kernel, rfl⟩
theorem eL_law_423 : am_b cL_law 423 (.if_icmp .eq 5) (5) 426 428 := ⟨by decide +kernel, rfl, by decide⟩
theorem eL_law_426 : am_d cL_law 426 (.iconst 0) 1 427 := ⟨by decide +kernel, rfl⟩
theorem eL_law_427 : am_d cL_law 427 (.ireturn) 1 428 := ⟨by decide +kernel, rfl⟩
theorem eL_law_428 : am_d cL_law 428 (.iload 5) 2 430 := ⟨by decide +kernel, rfl⟩
theorem eL_law_430 : am_b cL_law 430 (.ifCond .ne 15) (15) 433 445 := ⟨by decide +kernel, rfl, by decide⟩
theorem eL_law_433 : am_d cL_law 433 (.aload_n 3) 1 434 := ⟨by decide +kernel, rfl⟩
theorem eL_law_434 : am_d cL_law 434 (.iconst 0) 1 435 := ⟨by decide +kernel, rfl⟩
theorem eL_law_435 : am_d cL_law 435 (.laload) 1 436 := ⟨by decide +kernel, rfl⟩
theorem eL_law_436 : am_d cL_law 436 (.iload 6) 2 438 := ⟨by decide +kernel, rfl⟩
theorem eL_law_438 : am_d cL_law 438 (.i2l) 1 439 := ⟨by decide +kernel, rfl⟩
theorem eL_law_439 : am_d cL_law 439 (.lcmp) 1 440 := ⟨by decide +kernel, rfl⟩
theorem eL_law_440 : am_b cL_law 440 (.ifCond .eq 5) (5) 443 445 := ⟨by decide +kernel, rfl, by decide⟩
theorem eL_law_443 : am_d cL_law 443 (.iconst 0) 1 444 := ⟨by decide +kernel, rfl⟩
theorem eL_law_444 : am_d cL_law 444 (.ireturn) 1 445 := ⟨by decide +kernel, rfl⟩
theorem eL_law_445 : am_b cL_law 445 (.goto 1635) (1635) 448 2080 := ⟨by decide +kernel, rfl, by decide⟩
theorem eL_law_448 : am_d cL_law 448 (.aload_n 1) 1 449 := ⟨by decide +kernel, rfl⟩
theorem eL_law_449 : am_d cL_law 449 (.aload_n 0) 1 450 := ⟨by decide +kernel, rfl⟩
theorem eL_law_450 : am_d cL_law 450 (.iload 4) 2 452 := ⟨by decide +kernel, rfl⟩
theorem eL_law_452 : am_d cL_law 452 (.iconst 1) 1 453 := ⟨by decide +kernel, rfl⟩
theorem eL_law_453 : am_d cL_law 453 (.iadd) 1 454 := ⟨by decide +kernel, rfl⟩
theorem eL_law_454 : am_d cL_law 454 (.iaload) 1 455 := ⟨by decide +kernel, rfl⟩
theorem eL_law_455 : am_d cL_law 455 (.aload_n 3) 1 456 := ⟨by decide +kernel, rfl⟩
theorem eL_law_456 : am_d cL_law 456 (.invokestatic 121) 3 459 := ⟨by decide +kernel, rfl⟩
theorem eL_law_459 : am_d cL_law 459 (.istore 5) 2 461 := ⟨by decide +kernel, rfl⟩
theorem eL_law_461 : am_d cL_law 461 (.aload_n 2) 1 462 := ⟨by decide +kernel, rfl⟩
theorem eL_law_462 : am_d cL_law 462 (.aload_n 0) 1 463 := ⟨by decide +kernel, rfl⟩
theorem eL_law_463 : am_d cL_law 463 (.iload 4) 2 465 := ⟨by decide +kernel, rfl⟩
theorem eL_law_465 : am_d cL_law 465 (.iconst 1) 1 466 := ⟨by decide +kernel, rfl⟩
theorem eL_law_466 : am_d cL_law 466 (.iadd) 1 467 := ⟨by decide +kernel, rfl⟩
theorem eL_law_467 : am_d cL_law 467 (.iaload) 1 468 := ⟨by decide +kernel, rfl⟩
theorem eL_law_468 : am_d cL_law 468 (.invokevirtual 124) 3 471 := ⟨by decide +kernel, rfl⟩
theorem eL_law_471 : am_d cL_law 471 (.istore 6) 2 473 := ⟨by decide +kernel, rfl⟩
theorem eL_law_473 : am_d cL_law 473 (.aload_n 2) 1 474 := ⟨by decide +kernel, rfl⟩
theorem eL_law_474 : am_d cL_law 474 (.invokevirtual 107) 3 477 := ⟨by decide +kernel, rfl⟩
theorem eL_law_477 : am_d cL_law 477 (.iload 5) 2 479 := ⟨by decide +kernel, rfl⟩
theorem eL_law_479 : am_b cL_law 479 (.if_icmp .eq 5) (5) 482 484 := ⟨by decide +kernel, rfl, by decide⟩
theorem eL_law_482 : am_d cL_law 482 (.iconst 0) 1 483 := ⟨by decide +kernel, rfl⟩
theorem eL_law_483 : am_d cL_law 483 (.ireturn) 1 484 := ⟨by decide +kernel, rfl⟩
theorem eL_law_484 : am_d cL_law 484 (.iload 5) 2 486 := ⟨by decide +kernel, rfl⟩
theorem eL_law_486 : am_b cL_law 486 (.ifCond .ne 15) (15) 489 501 := ⟨by decide +kernel, rfl, by decide⟩
theorem eL_law_489 : am_d cL_law 489 (.aload_n 3) 1 490 := ⟨by decide +kernel, rfl⟩
theorem eL_law_490 : am_d cL_law 490 (.iconst 0) 1 491 := ⟨by decide +kernel, rfl⟩
theorem eL_law_491 : am_d cL_law 491 (.laload) 1 492 := ⟨by decide +kernel, rfl⟩
theorem eL_law_492 : am_d cL_law 492 (.iload 6) 2 494 := ⟨by decide +kernel, rfl⟩
theorem eL_law_494 : am_d cL_law 494 (.i2l) 1 495 := ⟨by decide +kernel, rfl⟩
theorem eL_law_495 : am_d cL_law 495 (.lcmp) 1 496 := ⟨by decide +kernel, rfl⟩
theorem eL_law_496 : am_b cL_law 496 (.ifCond .eq 5) (5) 499 501 := ⟨by decide +kernel, rfl, by decide⟩
theorem eL_law_499 : am_d cL_law 499 (.iconst 0) 1 500 := ⟨by decide +kernel, rfl⟩
theorem eL_law_500 : am_d cL_law 500 (.ireturn) 1 501 := ⟨by decide +kernel, rfl⟩
theorem eL_law_501 : am_b cL_law 501 (.goto 1579) (1579) 504 2080 := ⟨by decide +kernel, rfl, by decide⟩
theorem eL_law_504 : am_d cL_law 504 (.aload_n 1) 1 505 := ⟨by decide +kernel, rfl⟩
theorem eL_law_505 : am_d cL_law 505 (.aload_n 0) 1 506 := ⟨by decide +kernel, rfl⟩
theorem eL_law_506 : am_d cL_law 506 (.iload 4) 2 508 := ⟨by decide +kernel, rfl⟩
theorem eL_law_508 : am_d cL_law 508 (.iconst 1) 1 509 := ⟨by decide +kernel, rfl⟩
theorem eL_law_509 : am_d cL_law 509 (.iadd) 1 510 := ⟨by decide +kernel, rfl⟩
theorem eL_law_510 : am_d cL_law 510 (.iaload) 1 511 := ⟨by decide +kernel, rfl⟩
theorem eL_law_511 : am_d cL_law 511 (.aload_n 0) 1 512 := ⟨by decide +kernel, rfl⟩
theorem eL_law_512 : am_d cL_law 512 (.iload 4) 2 514 := ⟨by decide +kernel, rfl⟩
theorem eL_law_514 : am_d cL_law 514 (.iconst 2) 1 515 := ⟨by decide +kernel, rfl⟩
theorem eL_law_515 : am_d cL_law 515 (.iadd) 1 516 := ⟨by decide +kernel, rfl⟩
theorem eL_law_516 : am_d cL_law 516 (.iaload) 1 517 := ⟨by decide +kernel, rfl⟩
theorem eL_law_517 : am_d cL_law 517 (.aload_n 0) 1 518 := ⟨by decide +kernel, rfl⟩
theorem eL_law_518 : am_d cL_law 518 (.iload 4) 2 520 := ⟨by decide +kernel, rfl⟩
theorem eL_law_520 : am_d cL_law 520 (.iconst 3) 1 521 := ⟨by decide +kernel, rfl⟩
theorem eL_law_521 : am_d cL_law 521 (.iadd) 1 522 := ⟨by decide +kernel, rfl⟩
theorem eL_law_522 : am_d cL_law 522 (.iaload) 1 523 := ⟨by decide +kernel, rfl⟩
theorem eL_law_523 : am_d cL_law 523 (.aload_n 0) 1 524 := ⟨by decide +kernel, rfl⟩
theorem eL_law_524 : am_d cL_law 524 (.iload 4) 2 526 := ⟨by decide +kernel, rfl⟩
theorem eL_law_526 : am_d cL_law 526 (.iconst 4) 1 527 := ⟨by decide +kernel, rfl⟩
theorem eL_law_527 : am_d cL_law 527 (.iadd) 1 528 := ⟨by decide +kernel, rfl⟩
theorem eL_law_528 : am_d cL_law 528 (.iaload) 1 529 := ⟨by decide +kernel, rfl⟩
theorem eL_law_529 : am_d cL_law 529 (.aload_n 3) 1 530 := ⟨by decide +kernel, rfl⟩
theorem eL_law_530 : am_d cL_law 530 (.invokestatic 125) 3 533 := ⟨by decide +kernel, rfl⟩
theorem eL_law_533 : am_d cL_law 533 (.istore 5) 2 535 := ⟨by decide +kernel, rfl⟩
theorem eL_law_535 : am_d cL_law 535 (.aload_n 2) 1 536 := ⟨by decide +kernel, rfl⟩
theorem eL_law_536 : am_d cL_law 536 (.aload_n 0) 1 537 := ⟨by decide +kernel, rfl⟩
theorem eL_law_537 : am_d cL_law 537 (.iload 4) 2 539 := ⟨by decide +kernel, rfl⟩
theorem eL_law_539 : am_d cL_law 539 (.iconst 1) 1 540 := ⟨by decide +kernel, rfl⟩
theorem eL_law_540 : am_d cL_law 540 (.iadd) 1 541 := ⟨by decide +kernel, rfl⟩
theorem eL_law_541 : am_d cL_law 541 (.iaload) 1 542 := ⟨by decide +kernel, rfl⟩
theorem eL_law_542 : am_d cL_law 542 (.aload_n 0) 1 543 := ⟨by decide +kernel, rfl⟩
theorem eL_law_543 : am_d cL_law 543 (.iload 4) 2 545 := ⟨by decide +kernel, rfl⟩
theorem eL_law_545 : am_d cL_law 545 (.iconst 2) 1 546 := ⟨by decide +kernel, rfl⟩
theorem eL_law_546 : am_d cL_law 546 (.iadd) 1 547 := ⟨by decide +kernel, rfl⟩
theorem eL_law_547 : am_d cL_law 547 (.iaload) 1 548 := ⟨by decide +kernel, rfl⟩
theorem eL_law_548 : am_d cL_law 548 (.aload_n 0) 1 549 := ⟨by decide +kernel, rfl⟩
theorem eL_law_549 : am_d cL_law 549 (.iload 4) 2 551 := ⟨by decide +kernel, rfl⟩
theorem eL_law_551 : am_d cL_law 551 (.iconst 3) 1 552 := ⟨by decide +kernel, rfl⟩
theorem eL_law_552 : am_d cL_law 552 (.iadd) 1 553 := ⟨by decide +kernel, rfl⟩
theorem eL_law_553 : am_d cL_law 553 (.iaload) 1 554 := ⟨by decide +kernel, rfl⟩
theorem eL_law_554 : am_d cL_law 554 (.aload_n 0) 1 555 := ⟨by decide +kernel, rfl⟩
theorem eL_law_555 : am_d cL_law 555 (.iload 4) 2 557 := ⟨by decide +kernel, rfl⟩
theorem eL_law_557 : am_d cL_law 557 (.iconst 4) 1 558 := ⟨by decide +kernel, rfl⟩
theorem eL_law_558 : am_d cL_law 558 (.iadd) 1 559 := ⟨by decide +kernel, rfl⟩
theorem eL_law_559 : am_d cL_law 559 (.iaload) 1 560 := ⟨by decide +kernel, rfl⟩
theorem eL_law_560 : am_d cL_law 560 (.invokevirtual 128) 3 563 := ⟨by decide +kernel, rfl⟩
theorem eL_law_563 : am_d cL_law 563 (.istore 6) 2 565 := ⟨by decide +kernel, rfl⟩
theorem eL_law_565 : am_d cL_law 565 (.aload_n 2) 1 566 := ⟨by decide +kernel, rfl⟩
theorem eL_law_566 : am_d cL_law 566 (.invokevirtual 107) 3 569 := ⟨by decide +kernel, rfl⟩
theorem eL_law_569 : am_d cL_law 569 (.iload 5) 2 571 := ⟨by decide +kernel, rfl⟩
theorem eL_law_571 : am_b cL_law 571 (.if_icmp .eq 5) (5) 574 576 := ⟨by decide +kernel, rfl, by decide⟩
theorem eL_law_574 : am_d cL_law 574 (.iconst 0) 1 575 := ⟨by decide +kernel, rfl⟩
theorem eL_law_575 : am_d cL_law 575 (.ireturn) 1 576 := ⟨by decide +kernel, rfl⟩
theorem eL_law_576 : am_d cL_law 576 (.iload 5) 2 578 := ⟨by decide +kernel, rfl⟩
theorem eL_law_578 : am_b cL_law 578 (.ifCond .ne 15) (15) 581 593 := ⟨by decide +kernel, rfl, by decide⟩
theorem eL_law_581 : am_d cL_law 581 (.aload_n 3) 1 582 := ⟨by decide +kernel, rfl⟩
theorem eL_law_582 : am_d cL_law 582 (.iconst 0) 1 583 := ⟨by decide +kernel, rfl⟩
theorem eL_law_583 : am_d cL_law 583 (.laload) 1 584 := ⟨by decide +kernel, rfl⟩
theorem eL_law_584 : am_d cL_law 584 (.iload 6) 2 586 := ⟨by decide +kernel, rfl⟩
theorem eL_law_586 : am_d cL_law 586 (.i2l) 1 587 := ⟨by decide +kernel, rfl⟩
theorem eL_law_587 : am_d cL_law 587 (.lcmp) 1 588 := ⟨by decide +kernel, rfl⟩
theorem eL_law_588 : am_b cL_law 588 (.ifCond .eq 5) (5) 591 593 := ⟨by decide +kernel, rfl, by decide⟩
theorem eL_law_591 : am_d cL_law 591 (.iconst 0) 1 592 := ⟨by decide +kernel, rfl⟩
theorem eL_law_592 : am_d cL_law 592 (.ireturn) 1 593 := ⟨by decide +kernel, rfl⟩
theorem eL_law_593 : am_b cL_law 593 (.goto 1487) (1487) 596 2080 := ⟨by decide +kernel, rfl, by decide⟩
theorem eL_law_596 : am_d cL_law 596 (.aload_n 1) 1 597 := ⟨by decide +kernel, rfl⟩
theorem eL_law_597 : am_d cL_law 597 (.aload_n 0) 1 598 := ⟨by decide +kernel, rfl⟩
theorem eL_law_598 : am_d cL_law 598 (.iload 4) 2 600 := ⟨by decide +kernel, rfl⟩
theorem eL_law_600 : am_d cL_law 600 (.iconst 1) 1 601 := ⟨by decide +kernel, rfl⟩
theorem eL_law_601 : am_d cL_law 601 (.iadd) 1 602 := ⟨by decide +kernel, rfl⟩
theorem eL_law_602 : am_d cL_law 602 (.iaload) 1 603 := ⟨by decide +kernel, rfl⟩
theorem eL_law_603 : am_d cL_law 603 (.aload_n 3) 1 604 := ⟨by decide +kernel, rfl⟩
theorem eL_law_604 : am_d cL_law 604 (.invokestatic 129) 3 607 := ⟨by decide +kernel, rfl⟩
theorem eL_law_607 : am_d cL_law 607 (.istore 5) 2 609 := ⟨by decide +kernel, rfl⟩
theorem eL_law_609 : am_d cL_law 609 (.aload_n 2) 1 610 := ⟨by decide +kernel, rfl⟩
theorem eL_law_610 : am_d cL_law 610 (.aload_n 0) 1 611 := ⟨by decide +kernel, rfl⟩
theorem eL_law_611 : am_d cL_law 611 (.iload 4) 2 613 := ⟨by decide +kernel, rfl⟩
theorem eL_law_613 : am_d cL_law 613 (.iconst 1) 1 614 := ⟨by decide +kernel, rfl⟩
theorem eL_law_614 : am_d cL_law 614 (.iadd) 1 615 := ⟨by decide +kernel, rfl⟩
theorem eL_law_615 : am_d cL_law 615 (.iaload) 1 616 := ⟨by decide +kernel, rfl⟩
theorem eL_law_616 : am_d cL_law 616 (.invokevirtual 131) 3 619 := ⟨by decide +kernel, rfl⟩
theorem eL_law_619 : am_d cL_law 619 (.istore 6) 2 621 := ⟨by decide +kernel, rfl⟩
theorem eL_law_621 : am_d cL_law 621 (.aload_n 2) 1 622 := ⟨by decide +kernel, rfl⟩
theorem eL_law_622 : am_d cL_law 622 (.invokevirtual 107) 3 625 := ⟨by decide +kernel, rfl⟩
theorem eL_law_625 : am_d cL_law 625 (.iload 5) 2 627 := ⟨by decide +kernel, rfl⟩
theorem eL_law_627 : am_b cL_law 627 (.if_icmp .eq 5) (5) 630 632 := ⟨by decide +kernel, rfl, by decide⟩
theorem eL_law_630 : am_d cL_law 630 (.iconst 0) 1 631 := ⟨by decide +kernel, rfl⟩
theorem eL_law_631 : am_d cL_law 631 (.ireturn) 1 632 := ⟨by decide +kernel, rfl⟩
theorem eL_law_632 : am_d cL_law 632 (.iload 5) 2 634 := ⟨by decide +kernel, rfl⟩
theorem eL_law_634 : am_b cL_law 634 (.ifCond .ne 15) (15) 637 649 := ⟨by decide +kernel, rfl, by decide⟩
theorem eL_law_637 : am_d cL_law 637 (.aload_n 3) 1 638 := ⟨by decide +kernel, rfl⟩
theorem eL_law_638 : am_d cL_law 638 (.iconst 0) 1 639 := ⟨by decide +kernel, rfl⟩
theorem eL_law_639 : am_d cL_law 639 (.laload) 1 640 := ⟨by decide +kernel, rfl⟩
theorem eL_law_640 : am_d cL_law 640 (.iload 6) 2 642 := ⟨by decide +kernel, rfl⟩
theorem eL_law_642 : am_d cL_law 642 (.i2l) 1 643 := ⟨by decide +kernel, rfl⟩
theorem eL_law_643 : am_d cL_law 643 (.lcmp) 1 644 := ⟨by decide +kernel, rfl⟩
theorem eL_law_644 : am_b cL_law 644 (.ifCond .eq 5) (5) 647 649 := ⟨by decide +kernel, rfl, by decide⟩
theorem eL_law_647 : am_d cL_law 647 (.iconst 0) 1 648 := ⟨by decide +kernel, rfl⟩
theorem eL_law_648 : am_d cL_law 648 (.ireturn) 1 649 := ⟨by decide +kernel, rfl⟩
theorem eL_law_649 : am_b cL_law 649 (.goto 1431) (1431) 652 2080 := ⟨by decide +kernel, rfl, by decide⟩
theorem eL_law_652 : am_d cL_law 652 (.aload_n 1) 1 653 := ⟨by decide +kernel, rfl⟩
theorem eL_law_653 : am_d cL_law 653 (.invokevirtual 132) 3 656 := ⟨by decide +kernel, rfl⟩
theorem eL_law_656 : am_d cL_law 656 (.aload_n 2) 1 657 := ⟨by decide +kernel, rfl⟩
theorem eL_law_657 : am_d cL_law 657 (.invokevirtual 135) 3 660 := ⟨by decide +kernel, rfl⟩
theorem eL_law_660 : am_b cL_law 660 (.if_icmp .eq 1420) (1420) 663 2080 := ⟨by decide +kernel, rfl, by decide⟩
theorem eL_law_663 : am_d cL_law 663 (.iconst 0) 1 664 := ⟨by decide +kernel, rfl⟩
theorem eL_law_664 : am_d cL_law 664 (.ireturn) 1 665 := ⟨by decide +kernel, rfl⟩
theorem eL_law_665 : am_d cL_law 665 (.aload_n 1) 1 666 := ⟨by decide +kernel, rfl⟩
theorem eL_law_666 : am_d cL_law 666 (.aload_n 0) 1 667 := ⟨by decide +kernel, rfl⟩
theorem eL_law_667 : am_d cL_law 667 (.iload 4) 2 669 := ⟨by decide +kernel, rfl⟩
theorem eL_law_669 : am_d cL_law 669 (.iconst 1) 1 670 := ⟨by decide +kernel, rfl⟩
theorem eL_law_670 : am_d cL_law 670 (.iadd) 1 671 := ⟨by decide +kernel, rfl⟩
theorem eL_law_671 : am_d cL_law 671 (.iaload) 1 672 := ⟨by decide +kernel, rfl⟩
theorem eL_law_672 : am_b cL_law 672 (.ifCond .eq 7) (7) 675 679 := ⟨by decide +kernel, rfl, by decide⟩
theorem eL_law_675 : am_d cL_law 675 (.iconst 1) 1 676 := ⟨by decide +kernel, rfl⟩
theorem eL_law_676 : am_b cL_law 676 (.goto 4) (4) 679 680 := ⟨by decide +kernel, rfl, by decide⟩
theorem eL_law_679 : am_d cL_law 679 (.iconst 0) 1 680 := ⟨by decide +kernel, rfl⟩
theorem eL_law_680 : am_d cL_law 680 (.aload_n 0) 1 681 := ⟨by decide +kernel, rfl⟩
theorem eL_law_681 : am_d cL_law 681 (.iload 4) 2 683 := ⟨by decide +kernel, rfl⟩
theorem eL_law_683 : am_d cL_law 683 (.iconst 2) 1 684 := ⟨by decide +kernel, rfl⟩
theorem eL_law_684 : am_d cL_law 684 (.iadd) 1 685 := ⟨by decide +kernel, rfl⟩
theorem eL_law_685 : am_d cL_law 685 (.iaload) 1 686 := ⟨by decide +kernel, rfl⟩
theorem eL_law_686 : am_d cL_law 686 (.aload_n 0) 1 687 := ⟨by decide +kernel, rfl⟩
theorem eL_law_687 : am_d cL_law 687 (.iload 4) 2 689 := ⟨by decide +kernel, rfl⟩
theorem eL_law_689 : am_d cL_law 689 (.iconst 3) 1 690 := ⟨by decide +kernel, rfl⟩
theorem eL_law_690 : am_d cL_law 690 (.iadd) 1 691 := ⟨by decide +kernel, rfl⟩
theorem eL_law_691 : am_d cL_law 691 (.iaload) 1 692 := ⟨by decide +kernel, rfl⟩
theorem eL_law_692 : am_b cL_law 692 (.ifCond .eq 7) (7) 695 699 := ⟨by decide +kernel, rfl, by decide⟩
theorem eL_law_695 : am_d cL_law 695 (.iconst 1) 1 696 := ⟨by decide +kernel, rfl⟩
theorem eL_law_696 : am_b cL_law 696 (.goto 4) (4) 699 700 := ⟨by decide +kernel, rfl, by decide⟩
theorem eL_law_699 : am_d cL_law 699 (.iconst 0) 1 700 := ⟨by decide +kernel, rfl⟩
theorem eL_law_700 : am_d cL_law 700 (.aload_n 3) 1 701 := ⟨by decide +kernel, rfl⟩
theorem eL_law_701 : am_d cL_law 701 (.invokestatic 136) 3 704 := ⟨by decide +kernel, rfl⟩
theorem eL_law_704 : am_d cL_law 704 (.istore 5) 2 706 := ⟨by decide +kernel, rfl⟩
theorem eL_law_706 : am_d cL_law 706 (.aload_n 2) 1 707 := ⟨by decide +kernel, rfl⟩
theorem eL_law_707 : am_d cL_law 707 (.aload_n 0) 1 708 := ⟨by decide +kernel, rfl⟩
theorem eL_law_708 : am_d cL_law 708 (.iload 4) 2 710 := ⟨by decide +kernel, rfl⟩
theorem eL_law_710 : am_d cL_law 710 (.iconst 1) 1 711 := ⟨by decide +kernel, rfl⟩
theorem eL_law_711 : am_d cL_law 711 (.iadd) 1 712 := ⟨by decide +kernel, rfl⟩
theorem eL_law_712 : am_d cL_law 712 (.iaload) 1 713 := ⟨by decide +kernel, rfl⟩
theorem eL_law_713 : am_b cL_law 713 (.ifCond .eq 7) (7) 716 720 := ⟨by decide +kernel, rfl, by decide⟩
theorem eL_law_716 : am_d cL_law 716 (.iconst 1) 1 717 := ⟨by decide +kernel, rfl⟩
theorem eL_law_717 : am_b cL_law 717 (.goto 4) (4) 720 721 := ⟨by decide +kernel, rfl, by decide⟩
theorem eL_law_720 : am_d cL_law 720 (.iconst 0) 1 721 := ⟨by decide +kernel, rfl⟩
theorem eL_law_721 : am_d cL_law 721 (.aload_n 0) 1 722 := ⟨by decide +kernel, rfl⟩
theorem eL_law_722 : am_d cL_law 722 (.iload 4) 2 724 := ⟨by decide +kernel, rfl⟩
theorem eL_law_724 : am_d cL_law 724 (.iconst 2) 1 725 := ⟨by decide +kernel, rfl⟩
theorem eL_law_725 : am_d cL_law 725 (.iadd) 1 726 := ⟨by decide +kernel, rfl⟩
theorem eL_law_726 : am_d cL_law 726 (.iaload) 1 727 := ⟨by decide +kernel, rfl⟩
theorem eL_law_727 : am_d cL_law 727 (.aload_n 0) 1 728 := ⟨by decide +kernel, rfl⟩
theorem eL_law_728 : am_d cL_law 728 (.iload 4) 2 730 := ⟨by decide +kernel, rfl⟩
theorem eL_law_730 : am_d cL_law 730 (.iconst 3) 1 731 := ⟨by decide +kernel, rfl⟩
theorem eL_law_731 : am_d cL_law 731 (.iadd) 1 732 := ⟨by decide +kernel, rfl⟩
theorem eL_law_732 : am_d cL_law 732 (.iaload) 1 733 := ⟨by decide +kernel, rfl⟩
theorem eL_law_733 : am_b cL_law 733 (.ifCond .eq 7) (7) 736 740 := ⟨by decide +kernel, rfl, by decide⟩
theorem eL_law_736 : am_d cL_law 736 (.iconst 1) 1 737 := ⟨by decide +kernel, rfl⟩
theorem eL_law_737 : am_b cL_law 737 (.goto 4) (4) 740 741 := ⟨by decide +kernel, rfl, by decide⟩
theorem eL_law_740 : am_d cL_law 740 (.iconst 0) 1 741 := ⟨by decide +kernel, rfl⟩
theorem eL_law_741 : am_d cL_law 741 (.invokevirtual 139) 3 744 := ⟨by decide +kernel, rfl⟩
theorem eL_law_744 : am_d cL_law 744 (.istore 6) 2 746 := ⟨by decide +kernel, rfl⟩
theorem eL_law_746 : am_d cL_law 746 (.aload_n 2) 1 747 := ⟨by decide +kernel, rfl⟩
theorem eL_law_747 : am_d cL_law 747 (.invokevirtual 107) 3 750 := ⟨by decide +kernel, rfl⟩
theorem eL_law_750 : am_d cL_law 750 (.iload 5) 2 752 := ⟨by decide +kernel, rfl⟩
theorem eL_law_752 : am_b cL_law 752 (.if_icmp .eq 5) (5) 755 757 := ⟨by decide +kernel, rfl, by decide⟩
theorem eL_law_755 : am_d cL_law 755 (.iconst 0) 1 756 := ⟨by decide +kernel, rfl⟩
theorem eL_law_756 : am_d cL_law 756 (.ireturn) 1 757 := ⟨by decide +kernel, rfl⟩
theorem eL_law_757 : am_d cL_law 757 (.iload 5) 2 759 := ⟨by decide +kernel, rfl⟩
theorem eL_law_759 : am_b cL_law 759 (.ifCond .ne 15) (15) 762 774 := ⟨by decide +kernel, rfl, by decide⟩
theorem eL_law_762 : am_d cL_law 762 (.aload_n 3) 1 763 := ⟨by decide +kernel, rfl⟩
theorem eL_law_763 : am_d cL_law 763 (.iconst 0) 1 764 := ⟨by decide +kernel, rfl⟩
theorem eL_law_764 : am_d cL_law 764 (.laload) 1 765 := ⟨by decide +kernel, rfl⟩
theorem eL_law_765 : am_d cL_law 765 (.iload 6) 2 767 := ⟨by decide +kernel, rfl⟩
theorem eL_law_767 : am_d cL_law 767 (.i2l) 1 768 := ⟨by decide +kernel, rfl⟩
theorem eL_law_768 : am_d cL_law 768 (.lcmp) 1 769 := ⟨by decide +kernel, rfl⟩
theorem eL_law_769 : am_b cL_law 769 (.ifCond .eq 5) (5) 772 774 := ⟨by decide +kernel, rfl, by decide⟩
theorem eL_law_772 : am_d cL_law 772 (.iconst 0) 1 773 := ⟨by decide +kernel, rfl⟩
theorem eL_law_773 : am_d cL_law 773 (.ireturn) 1 774 := ⟨by decide +kernel, rfl⟩
theorem eL_law_774 : am_b cL_law 774 (.goto 1306) (1306) 777 2080 := ⟨by decide +kernel, rfl, by decide⟩
theorem eL_law_777 : am_d cL_law 777 (.aload_n 1) 1 778 := ⟨by decide +kernel, rfl⟩
theorem eL_law_778 : am_d cL_law 778 (.aload_n 0) 1 779 := ⟨by decide +kernel, rfl⟩
theorem eL_law_779 : am_d cL_law 779 (.iload 4) 2 781 := ⟨by decide +kernel, rfl⟩
theorem eL_law_781 : am_d cL_law 781 (.iconst 1) 1 782 := ⟨by decide +kernel, rfl⟩
theorem eL_law_782 : am_d cL_law 782 (.iadd) 1 783 := ⟨by decide +kernel, rfl⟩
theorem eL_law_783 : am_d cL_law 783 (.iaload) 1 784 := ⟨by decide +kernel, rfl⟩
theorem eL_law_784 : am_d cL_law 784 (.aload_n 0) 1 785 := ⟨by decide +kernel, rfl⟩
theorem eL_law_785 : am_d cL_law 785 (.iload 4) 2 787 := ⟨by decide +kernel, rfl⟩
theorem eL_law_787 : am_d cL_law 787 (.iconst 2) 1 788 := ⟨by decide +kernel, rfl⟩
theorem eL_law_788 : am_d cL_law 788 (.iadd) 1 789 := ⟨by decide +kernel, rfl⟩
theorem eL_law_789 : am_d cL_law 789 (.iaload) 1 790 := ⟨by decide +kernel, rfl⟩
theorem eL_law_790 : am_b cL_law 790 (.ifCond .eq 7) (7) 793 797 := ⟨by decide +kernel, rfl, by decide⟩
theorem eL_law_793 : am_d cL_law 793 (.iconst 1) 1 794 := ⟨by decide +kernel, rfl⟩
theorem eL_law_794 : am_b cL_law 794 (.goto 4) (4) 797 798 := ⟨by decide +kernel, rfl, by decide⟩
theorem eL_law_797 : am_d cL_law 797 (.iconst 0) 1 798 := ⟨by decide +kernel, rfl⟩
theorem eL_law_798 : am_d cL_law 798 (.aload_n 0) 1 799 := ⟨by decide +kernel, rfl⟩
theorem eL_law_799 : am_d cL_law 799 (.iload 4) 2 801 := ⟨by decide +kernel, rfl⟩
theorem eL_law_801 : am_d cL_law 801 (.iconst 3) 1 802 := ⟨by decide +kernel, rfl⟩
theorem eL_law_802 : am_d cL_law 802 (.iadd) 1 803 := ⟨by decide +kernel, rfl⟩
theorem eL_law_803 : am_d cL_law 803 (.iaload) 1 804 := ⟨by decide +kernel, rfl⟩
theorem eL_law_804 : am_b cL_law 804 (.ifCond .eq 7) (7) 807 811 := ⟨by decide +kernel, rfl, by decide⟩
theorem eL_law_807 : am_d cL_law 807 (.iconst 1) 1 808 := ⟨by decide +kernel, rfl⟩
theorem eL_law_808 : am_b cL_law 808 (.goto 4) (4) 811 812 := ⟨by decide +kernel, rfl, by decide⟩
theorem eL_law_811 : am_d cL_law 811 (.iconst 0) 1 812 := ⟨by decide +kernel, rfl⟩
theorem eL_law_812 : am_d cL_law 812 (.aload_n 3) 1 813 := ⟨by decide +kernel, rfl⟩
theorem eL_law_813 : am_d cL_law 813 (.invokestatic 140) 3 816 := ⟨by decide +kernel, rfl⟩
theorem eL_law_816 : am_d cL_law 816 (.istore 5) 2 818 := ⟨by decide +kernel, rfl⟩
theorem eL_law_818 : am_d cL_law 818 (.aload_n 2) 1 819 := ⟨by decide +kernel, rfl⟩
theorem eL_law_819 : am_d cL_law 819 (.aload_n 0) 1 820 := ⟨by decide +kernel, rfl⟩
theorem eL_law_820 : am_d cL_law 820 (.iload 4) 2 822 := ⟨by decide +kernel, rfl⟩
theorem eL_law_822 : am_d cL_law 822 (.iconst 1) 1 823 := ⟨by decide +kernel, rfl⟩
theorem eL_law_823 : am_d cL_law 823 (.iadd) 1 824 := ⟨by decide +kernel, rfl⟩
theorem eL_law_824 : am_d cL_law 824 (.iaload) 1 825 := ⟨by decide +kernel, rfl⟩
theorem eL_law_825 : am_d cL_law 825 (.aload_n 0) 1 826 := ⟨by decide +kernel, rfl⟩
theorem eL_law_826 : am_d cL_law 826 (.iload 4) 2 828 := ⟨by decide +kernel, rfl⟩
theorem eL_law_828 : am_d cL_law 828 (.iconst 2) 1 829 := ⟨by decide +kernel, rfl⟩
theorem eL_law_829 : am_d cL_law 829 (.iadd) 1 830 := ⟨by decide +kernel, rfl⟩
theorem eL_law_830 : am_d cL_law 830 (.iaload) 1 831 := ⟨by decide +kernel, rfl⟩
theorem eL_law_831 : am_b cL_law 831 (.ifCond .eq 7) (7) 834 838 := ⟨by decide +kernel, rfl, by decide⟩
theorem eL_law_834 : am_d cL_law 834 (.iconst 1) 1 835 := ⟨by decide +kernel, rfl⟩
theorem eL_law_835 : am_b cL_law 835 (.goto 4) (4) 838 839 := ⟨by decide +kernel, rfl, by decide⟩
theorem eL_law_838 : am_d cL_law 838 (.iconst 0) 1 839 := ⟨by decide +kernel, rfl⟩
theorem eL_law_839 : am_d cL_law 839 (.aload_n 0) 1 840 := ⟨by decide +kernel, rfl⟩
theorem eL_law_840 : am_d cL_law 840 (.iload 4) 2 842 := ⟨by decide +kernel, rfl⟩
theorem eL_law_842 : am_d cL_law 842 (.iconst 3) 1 843 := ⟨by decide +kernel, rfl⟩
theorem eL_law_843 : am_d cL_law 843 (.iadd) 1 844 := ⟨by decide +kernel, rfl⟩
theorem eL_law_844 : am_d cL_law 844 (.iaload) 1 845 := ⟨by decide +kernel, rfl⟩
theorem eL_law_845 : am_b cL_law 845 (.ifCond .eq 7) (7) 848 852 := ⟨by decide +kernel, rfl, by decide⟩
theorem eL_law_848 : am_d cL_law 848 (.iconst 1) 1 849 := ⟨by decide +kernel, rfl⟩
theorem eL_law_849 : am_b cL_law 849 (.goto 4) (4) 852 853 := ⟨by decide +kernel, rfl, by decide⟩
theorem eL_law_852 : am_d cL_law 852 (.iconst 0) 1 853 := ⟨by decide +kernel, rfl⟩
theorem eL_law_853 : am_d cL_law 853 (.invokevirtual 143) 3 856 := ⟨by decide +kernel, rfl⟩
theorem eL_law_856 : am_d cL_law 856 (.istore 6) 2 858 := ⟨by decide +kernel, rfl⟩
theorem eL_law_858 : am_d cL_law 858 (.aload_n 2) 1 859 := ⟨by decide +kernel, rfl⟩
theorem eL_law_859 : am_d cL_law 859 (.invokevirtual 107) 3 862 := ⟨by decide +kernel, rfl⟩
theorem eL_law_862 : am_d cL_law 862 (.iload 5) 2 864 := ⟨by decide +kernel, rfl⟩
theorem eL_law_864 : am_b cL_law 864 (.if_icmp .eq 5) (5) 867 869 := ⟨by decide +kernel, rfl, by decide⟩
theorem eL_law_867 : am_d cL_law 867 (.iconst 0) 1 868 := ⟨by decide +kernel, rfl⟩
theorem eL_law_868 : am_d cL_law 868 (.ireturn) 1 869 := ⟨by decide +kernel, rfl⟩
theorem eL_law_869 : am_d cL_law 869 (.iload 5) 2 871 := ⟨by decide +kernel, rfl⟩
theorem eL_law_871 : am_b cL_law 871 (.ifCond .ne 15) (15) 874 886 := ⟨by decide +kernel, rfl, by decide⟩
theorem eL_law_874 : am_d cL_law 874 (.aload_n 3) 1 875 := ⟨by decide +kernel, rfl⟩
theorem eL_law_875 : am_d cL_law 875 (.iconst 0) 1 876 := ⟨by decide +kernel, rfl⟩
theorem eL_law_876 : am_d cL_law 876 (.laload) 1 877 := ⟨by decide +kernel, rfl⟩
theorem eL_law_877 : am_d cL_law 877 (.iload 6) 2 879 := ⟨by decide +kernel, rfl⟩
theorem eL_law_879 : am_d cL_law 879 (.i2l) 1 880 := ⟨by decide +kernel, rfl⟩
theorem eL_law_880 : am_d cL_law 880 (.lcmp) 1 881 := ⟨by decide +kernel, rfl⟩
theorem eL_law_881 : am_b cL_law 881 (.ifCond .eq 5) (5) 884 886 := ⟨by decide +kernel, rfl, by decide⟩
theorem eL_law_884 : am_d cL_law 884 (.iconst 0) 1 885 := ⟨by decide +kernel, rfl⟩
theorem eL_law_885 : am_d cL_law 885 (.ireturn) 1 886 := ⟨by decide +kernel, rfl⟩
theorem eL_law_886 : am_b cL_law 886 (.goto 1194) (1194) 889 2080 := ⟨by decide +kernel, rfl, by decide⟩
theorem eL_law_889 : am_d cL_law 889 (.aload_n 1) 1 890 := ⟨by decide +kernel, rfl⟩
theorem eL_law_890 : am_d cL_law 890 (.aload_n 0) 1 891 := ⟨by decide +kernel, rfl⟩
theorem eL_law_891 : am_d cL_law 891 (.iload 4) 2 893 := ⟨by decide +kernel, rfl⟩
theorem eL_law_893 : am_d cL_law 893 (.iconst 1) 1 894 := ⟨by decide +kernel, rfl⟩
theorem eL_law_894 : am_d cL_law 894 (.iadd) 1 895 := ⟨by decide +kernel, rfl⟩
theorem eL_law_895 : am_d cL_law 895 (.iaload) 1 896 := ⟨by decide +kernel, rfl⟩
theorem eL_law_896 : am_d cL_law 896 (.aload_n 3) 1 897 := ⟨by decide +kernel, rfl⟩
theorem eL_law_897 : am_d cL_law 897 (.invokestatic 144) 3 900 := ⟨by decide +kernel, rfl⟩
theorem eL_law_900 : am_d cL_law 900 (.istore 5) 2 902 := ⟨by decide +kernel, rfl⟩
theorem eL_law_902 : am_d cL_law 902 (.aload_n 2) 1 903 := ⟨by decide +kernel, rfl⟩
theorem eL_law_903 : am_d cL_law 903 (.aload_n 0) 1 904 := ⟨by decide +kernel, rfl⟩
theorem eL_law_904 : am_d cL_law 904 (.iload 4) 2 906 := ⟨by decide +kernel, rfl⟩
theorem eL_law_906 : am_d cL_law 906 (.iconst 1) 1 907 := ⟨by decide +kernel, rfl⟩
theorem eL_law_907 : am_d cL_law 907 (.iadd) 1 908 := ⟨by decide +kernel, rfl⟩
theorem eL_law_908 : am_d cL_law 908 (.iaload) 1 909 := ⟨by decide +kernel, rfl⟩
theorem eL_law_909 : am_d cL_law 909 (.invokevirtual 146) 3 912 := ⟨by decide +kernel, rfl⟩
theorem eL_law_912 : am_d cL_law 912 (.istore 6) 2 914 := ⟨by decide +kernel, rfl⟩
theorem eL_law_914 : am_d cL_law 914 (.aload_n 2) 1 915 := ⟨by decide +kernel, rfl⟩
theorem eL_law_915 : am_d cL_law 915 (.invokevirtual 107) 3 918 := ⟨by decide +kernel, rfl⟩
theorem eL_law_918 : am_d cL_law 918 (.iload 5) 2 920 := ⟨by decide +kernel, rfl⟩
theorem eL_law_920 : am_b cL_law 920 (.if_icmp .eq 5) (5) 923 925 := ⟨by decide +kernel, rfl, by decide⟩
theorem eL_law_923 : am_d cL_law 923 (.iconst 0) 1 924 := ⟨by decide +kernel, rfl⟩
theorem eL_law_924 : am_d cL_law 924 (.ireturn) 1 925 := ⟨by decide +kernel, rfl⟩
theorem eL_law_925 : am_d cL_law 925 (.iload 5) 2 927 := ⟨by decide +kernel, rfl⟩
theorem eL_law_927 : am_b cL_law 927 (.ifCond .ne 15) (15) 930 942 := ⟨by decide +kernel, rfl, by decide⟩
theorem eL_law_930 : am_d cL_law 930 (.aload_n 3) 1 931 := ⟨by decide +kernel, rfl⟩
theorem eL_law_931 : am_d cL_law 931 (.iconst 0) 1 932 := ⟨by decide +kernel, rfl⟩
theorem eL_law_932 : am_d cL_law 932 (.laload) 1 933 := ⟨by decide +kernel, rfl⟩
theorem eL_law_933 : am_d cL_law 933 (.iload 6) 2 935 := ⟨by decide +kernel, rfl⟩
theorem eL_law_935 : am_d cL_law 935 (.i2l) 1 936 := ⟨by decide +kernel, rfl⟩
theorem eL_law_936 : am_d cL_law 936 (.lcmp) 1 937 := ⟨by decide +kernel, rfl⟩
theorem eL_law_937 : am_b cL_law 937 (.ifCond .eq 5) (5) 940 942 := ⟨by decide +kernel, rfl, by decide⟩
theorem eL_law_940 : am_d cL_law 940 (.iconst 0) 1 941 := ⟨by decide +kernel, rfl⟩
theorem eL_law_941 : am_d cL_law 941 (.ireturn) 1 942 := ⟨by decide +kernel, rfl⟩
theorem eL_law_942 : am_b cL_law 942 (.goto 1138) (1138) 945 2080 := ⟨by decide +kernel, rfl, by decide⟩
theorem eL_law_945 : am_d cL_law 945 (.aload_n 1) 1 946 := ⟨by decide +kernel, rfl⟩
theorem eL_law_946 : am_d cL_law 946 (.aload_n 0) 1 947 := ⟨by decide +kernel, rfl⟩
theorem eL_law_947 : am_d cL_law 947 (.iload 4) 2 949 := ⟨by decide +kernel, rfl⟩
theorem eL_law_949 : am_d cL_law 949 (.iconst 1) 1 950 := ⟨by decide +kernel, rfl⟩
theorem eL_law_950 : am_d cL_law 950 (.iadd) 1 951 := ⟨by decide +kernel, rfl⟩
theorem eL_law_951 : am_d cL_law 951 (.iaload) 1 952 := ⟨by decide +kernel, rfl⟩
theorem eL_law_952 : am_d cL_law 952 (.aload_n 3) 1 953 := ⟨by decide +kernel, rfl⟩
theorem eL_law_953 : am_d cL_law 953 (.invokestatic 147) 3 956 := ⟨by decide +kernel, rfl⟩
theorem eL_law_956 : am_d cL_law 956 (.istore 5) 2 958 := ⟨by decide +kernel, rfl⟩
theorem eL_law_958 : am_d cL_law 958 (.aload_n 2) 1 959 := ⟨by decide +kernel, rfl⟩
theorem eL_law_959 : am_d cL_law 959 (.aload_n 0) 1 960 := ⟨by decide +kernel, rfl⟩
theorem eL_law_960 : am_d cL_law 960 (.iload 4) 2 962 := ⟨by decide +kernel, rfl⟩
theorem eL_law_962 : am_d cL_law 962 (.iconst 1) 1 963 := ⟨by decide +kernel, rfl⟩
theorem eL_law_963 : am_d cL_law 963 (.iadd) 1 964 := ⟨by decide +kernel, rfl⟩
theorem eL_law_964 : am_d cL_law 964 (.iaload) 1 965 := ⟨by decide +kernel, rfl⟩
theorem eL_law_965 : am_d cL_law 965 (.invokevirtual 149) 3 968 := ⟨by decide +kernel, rfl⟩
theorem eL_law_968 : am_d cL_law 968 (.istore 6) 2 970 := ⟨by decide +kernel, rfl⟩
theorem eL_law_970 : am_d cL_law 970 (.aload_n 2) 1 971 := ⟨by decide +kernel, rfl⟩
theorem eL_law_971 : am_d cL_law 971 (.invokevirtual 107) 3 974 := ⟨by decide +kernel, rfl⟩
theorem eL_law_974 : am_d cL_law 974 (.iload 5) 2 976 := ⟨by decide +kernel, rfl⟩
theorem eL_law_976 : am_b cL_law 976 (.if_icmp .eq 5) (5) 979 981 := ⟨by decide +kernel, rfl, by decide⟩
theorem eL_law_979 : am_d cL_law 979 (.iconst 0) 1 980 := ⟨by decide +kernel, rfl⟩
theorem eL_law_980 : am_d cL_law 980 (.ireturn) 1 981 := ⟨by decide +kernel, rfl⟩
theorem eL_law_981 : am_d cL_law 981 (.iload 5) 2 983 := ⟨by decide +kernel, rfl⟩
theorem eL_law_983 : am_b cL_law 983 (.ifCond .ne 15) (15) 986 998 := ⟨by decide +kernel, rfl, by decide⟩
theorem eL_law_986 : am_d cL_law 986 (.aload_n 3) 1 987 := ⟨by decide +kernel, rfl⟩
theorem eL_law_987 : am_d cL_law 987 (.iconst 0) 1 988 := ⟨by decide +kernel, rfl⟩
theorem eL_law_988 : am_d cL_law 988 (.laload) 1 989 := ⟨by decide +kernel, rfl⟩
theorem eL_law_989 : am_d cL_law 989 (.iload 6) 2 991 := ⟨by decide +kernel, rfl⟩
theorem eL_law_991 : am_d cL_law 991 (.i2l) 1 992 := ⟨by decide +kernel, rfl⟩
theorem eL_law_992 : am_d cL_law 992 (.lcmp) 1 993 := ⟨by decide +kernel, rfl⟩
theorem eL_law_993 : am_b cL_law 993 (.ifCond .eq 5) (5) 996 998 := ⟨by decide +kernel, rfl, by decide⟩
theorem eL_law_996 : am_d cL_law 996 (.iconst 0) 1 997 := ⟨by decide +kernel, rfl⟩
theorem eL_law_997 : am_d cL_law 997 (.ireturn) 1 998 := ⟨by decide +kernel, rfl⟩
theorem eL_law_998 : am_b cL_law 998 (.goto 1082) (1082) 1001 2080 := ⟨by decide +kernel, rfl, by decide⟩
theorem eL_law_1001 : am_d cL_law 1001 (.aload_n 1) 1 1002 := ⟨by decide +kernel, rfl⟩
theorem eL_law_1002 : am_d cL_law 1002 (.invokevirtual 150) 3 1005 := ⟨by decide +kernel, rfl⟩
theorem eL_law_1005 : am_d cL_law 1005 (.aload_n 2) 1 1006 := ⟨by decide +kernel, rfl⟩
theorem eL_law_1006 : am_d cL_law 1006 (.invokevirtual 153) 3 1009 := ⟨by decide +kernel, rfl⟩
theorem eL_law_1009 : am_b cL_law 1009 (.if_icmp .eq 1071) (1071) 1012 2080 := ⟨by decide +kernel, rfl, by decide⟩
theorem eL_law_1012 : am_d cL_law 1012 (.iconst 0) 1 1013 := ⟨by decide +kernel, rfl⟩
theorem eL_law_1013 : am_d cL_law 1013 (.ireturn) 1 1014 := ⟨by decide +kernel, rfl⟩
theorem eL_law_1014 : am_d cL_law 1014 (.aload_n 1) 1 1015 := ⟨by decide +kernel, rfl⟩
theorem eL_law_1015 : am_d cL_law 1015 (.invokevirtual 154) 3 1018 := ⟨by decide +kernel, rfl⟩
theorem eL_law_1018 : am_d cL_law 1018 (.aload_n 2) 1 1019 := ⟨by decide +kernel, rfl⟩
theorem eL_law_1019 : am_d cL_law 1019 (.invokevirtual 157) 3 1022 := ⟨by decide +kernel, rfl⟩
theorem eL_law_1022 : am_b cL_law 1022 (.if_icmp .eq 1058) (1058) 1025 2080 := ⟨by decide +kernel, rfl, by decide⟩
theorem eL_law_1025 : am_d cL_law 1025 (.iconst 0) 1 1026 := ⟨by decide +kernel, rfl⟩
theorem eL_law_1026 : am_d cL_law 1026 (.ireturn) 1 1027 := ⟨by decide +kernel, rfl⟩
theorem eL_law_1027 : am_d cL_law 1027 (.aload_n 1) 1 1028 := ⟨by decide +kernel, rfl⟩
theorem eL_law_1028 : am_d cL_law 1028 (.aload_n 0) 1 1029 := ⟨by decide +kernel, rfl⟩
theorem eL_law_1029 : am_d cL_law 1029 (.iload 4) 2 1031 := ⟨by decide +kernel, rfl⟩
theorem eL_law_1031 : am_d cL_law 1031 (.iconst 1) 1 1032 := ⟨by decide +kernel, rfl⟩
theorem eL_law_1032 : am_d cL_law 1032 (.iadd) 1 1033 := ⟨by decide +kernel, rfl⟩
theorem eL_law_1033 : am_d cL_law 1033 (.iaload) 1 1034 := ⟨by decide +kernel, rfl⟩
theorem eL_law_1034 : am_d cL_law 1034 (.aload_n 3) 1 1035 := ⟨by decide +kernel, rfl⟩
theorem eL_law_1035 : am_d cL_law 1035 (.invokestatic 158) 3 1038 := ⟨by decide +kernel, rfl⟩
theorem eL_law_1038 : am_d cL_law 1038 (.istore 5) 2 1040 := ⟨by decide +kernel, rfl⟩
theorem eL_law_1040 : am_d cL_law 1040 (.aload_n 2) 1 1041 := ⟨by decide +kernel, rfl⟩
theorem eL_law_1041 : am_d cL_law 1041 (.aload_n 0) 1 1042 := ⟨by decide +kernel, rfl⟩
theorem eL_law_1042 : am_d cL_law 1042 (.iload 4) 2 1044 := ⟨by decide +kernel, rfl⟩
theorem eL_law_1044 : am_d cL_law 1044 (.iconst 1) 1 1045 := ⟨by decide +kernel, rfl⟩
theorem eL_law_1045 : am_d cL_law 1045 (.iadd) 1 1046 := ⟨by decide +kernel, rfl⟩
theorem eL_law_1046 : am_d cL_law 1046 (.iaload) 1 1047 := ⟨by decide +kernel, rfl⟩
theorem eL_law_1047 : am_d cL_law 1047 (.invokevirtual 160) 3 1050 := ⟨by decide +kernel, rfl⟩
theorem eL_law_1050 : am_d cL_law 1050 (.istore 6) 2 1052 := ⟨by decide +kernel, rfl⟩
theorem eL_law_1052 : am_d cL_law 1052 (.aload_n 2) 1 1053 := ⟨by decide +kernel, rfl⟩
theorem eL_law_1053 : am_d cL_law 1053 (.invokevirtual 107) 3 1056 := ⟨by decide +kernel, rfl⟩
theorem eL_law_1056 : am_d cL_law 1056 (.iload 5) 2 1058 := ⟨by decide +kernel, rfl⟩
theorem eL_law_1058 : am_b cL_law 1058 (.if_icmp .eq 5) (5) 1061 1063 := ⟨by decide +kernel, rfl, by decide⟩
theorem eL_law_1061 : am_d cL_law 1061 (.iconst 0) 1 1062 := ⟨by decide +kernel, rfl⟩
theorem eL_law_1062 : am_d cL_law 1062 (.ireturn) 1 1063 := ⟨by decide +kernel, rfl⟩
theorem eL_law_1063 : am_d cL_law 1063 (.iload 5) 2 1065 := ⟨by decide +kernel, rfl⟩
theorem eL_law_1065 : am_b cL_law 1065 (.ifCond .ne 22) (22) 1068 1087 := ⟨by decide +kernel, rfl, by decide⟩
theorem eL_law_1068 : am_d cL_law 1068 (.aload_n 3) 1 1069 := ⟨by decide +kernel, rfl⟩
theorem eL_law_1069 : am_d cL_law 1069 (.iconst 0) 1 1070 := ⟨by decide +kernel, rfl⟩
theorem eL_law_1070 : am_d cL_law 1070 (.laload) 1 1071 := ⟨by decide +kernel, rfl⟩
theorem eL_law_1071 : am_d cL_law 1071 (.iload 6) 2 1073 := ⟨by decide +kernel, rfl⟩
theorem eL_law_1073 : am_b cL_law 1073 (.ifCond .eq 7) (7) 1076 1080 := ⟨by decide +kernel, rfl, by decide⟩
theorem eL_law_1076 : am_d cL_law 1076 (.lconst 1) 1 1077 := ⟨by decide +kernel, rfl⟩
theorem eL_law_1077 : am_b cL_law 1077 (.goto 4) (4) 1080 1081 := ⟨by decide +kernel, rfl, by decide⟩
theorem eL_law_1080 : am_d cL_law 1080 (.lconst 0) 1 1081 := ⟨by decide +kernel, rfl⟩
theorem eL_law_1081 : am_d cL_law 1081 (.lcmp) 1 1082 := ⟨by decide +kernel, rfl⟩
theorem eL_law_1082 : am_b cL_law 1082 (.ifCond .eq 5) (5) 1085 1087 := ⟨by decide +kernel, rfl, by decide⟩
theorem eL_law_1085 : am_d cL_law 1085 (.iconst 0) 1 1086 := ⟨by decide +kernel, rfl⟩
theorem eL_law_1086 : am_d cL_law 1086 (.ireturn) 1 1087 := ⟨by decide +kernel, rfl⟩
theorem eL_law_1087 : am_b cL_law 1087 (.goto 993) (993) 1090 2080 := ⟨by decide +kernel, rfl, by decide⟩
theorem eL_law_1090 : am_d cL_law 1090 (.aload_n 1) 1 1091 := ⟨by decide +kernel, rfl⟩
theorem eL_law_1091 : am_d cL_law 1091 (.aload_n 0) 1 1092 := ⟨by decide +kernel, rfl⟩
theorem eL_law_1092 : am_d cL_law 1092 (.iload 4) 2 1094 := ⟨by decide +kernel, rfl⟩
theorem eL_law_1094 : am_d cL_law 1094 (.iconst 1) 1 1095 := ⟨by decide +kernel, rfl⟩
theorem eL_law_1095 : am_d cL_law 1095 (.iadd) 1 1096 := ⟨by decide +kernel, rfl⟩
theorem eL_law_1096 : am_d cL_law 1096 (.iaload) 1 1097 := ⟨by decide +kernel, rfl⟩
theorem eL_law_1097 : am_d cL_law 1097 (.aload_n 0) 1 1098 := ⟨by decide +kernel, rfl⟩
theorem eL_law_1098 : am_d cL_law 1098 (.iload 4) 2 1100 := ⟨by decide +kernel, rfl⟩
theorem eL_law_1100 : am_d cL_law 1100 (.iconst 2) 1 1101 := ⟨by decide +kernel, rfl⟩
theorem eL_law_1101 : am_d cL_law 1101 (.iadd) 1 1102 := ⟨by decide +kernel, rfl⟩
theorem eL_law_1102 : am_d cL_law 1102 (.iaload) 1 1103 := ⟨by decide +kernel, rfl⟩
theorem eL_law_1103 : am_b cL_law 1103 (.ifCond .eq 7) (7) 1106 1110 := ⟨by decide +kernel, rfl, by decide⟩
theorem eL_law_1106 : am_d cL_law 1106 (.iconst 1) 1 1107 := ⟨by decide +kernel, rfl⟩
theorem eL_law_1107 : am_b cL_law 1107 (.goto 4) (4) 1110 1111 := ⟨by decide +kernel, rfl, by decide⟩
theorem eL_law_1110 : am_d cL_law 1110 (.iconst 0) 1 1111 := ⟨by decide +kernel, rfl⟩
theorem eL_law_1111 : am_d cL_law 1111 (.aload_n 3) 1 1112 := ⟨by decide +kernel, rfl⟩
theorem eL_law_1112 : am_d cL_law 1112 (.invokestatic 161) 3 1115 := ⟨by decide +kernel, rfl⟩
theorem eL_law_1115 : am_d cL_law 1115 (.istore 5) 2 1117 := ⟨by decide +kernel, rfl⟩
theorem eL_law_1117 : am_d cL_law 1117 (.aload_n 2) 1 1118 := ⟨by decide +kernel, rfl⟩
theorem eL_law_1118 : am_d cL_law 1118 (.aload_n 0) 1 1119 := ⟨by decide +kernel, rfl⟩
theorem eL_law_1119 : am_d cL_law 1119 (.iload 4) 2 1121 := ⟨by decide +kernel, rfl⟩
theorem eL_law_1121 : am_d cL_law 1121 (.iconst 1) 1 1122 := ⟨by decide +kernel, rfl⟩
theorem eL_law_1122 : am_d cL_law 1122 (.iadd) 1 1123 := ⟨by decide +kernel, rfl⟩
theorem eL_law_1123 : am_d cL_law 1123 (.iaload) 1 1124 := ⟨by decide +kernel, rfl⟩
theorem eL_law_1124 : am_d cL_law 1124 (.aload_n 0) 1 1125 := ⟨by decide +kernel, rfl⟩
theorem eL_law_1125 : am_d cL_law 1125 (.iload 4) 2 1127 := ⟨by decide +kernel, rfl⟩
theorem eL_law_1127 : am_d cL_law 1127 (.iconst 2) 1 1128 := ⟨by decide +kernel, rfl⟩
theorem eL_law_1128 : am_d cL_law 1128 (.iadd) 1 1129 := ⟨by decide +kernel, rfl⟩
theorem eL_law_1129 : am_d cL_law 1129 (.iaload) 1 1130 := ⟨by decide +kernel, rfl⟩
theorem eL_law_1130 : am_b cL_law 1130 (.ifCond .eq 7) (7) 1133 1137 := ⟨by decide +kernel, rfl, by decide⟩
theorem eL_law_1133 : am_d cL_law 1133 (.iconst 1) 1 1134 := ⟨by decide +kernel, rfl⟩
theorem eL_law_1134 : am_b cL_law 1134 (.goto 4) (4) 1137 1138 := ⟨by decide +kernel, rfl, by decide⟩
theorem eL_law_1137 : am_d cL_law 1137 (.iconst 0) 1 1138 := ⟨by decide +kernel, rfl⟩
theorem eL_law_1138 : am_d cL_law 1138 (.invokevirtual 164) 3 1141 := ⟨by decide +kernel, rfl⟩
theorem eL_law_1141 : am_d cL_law 1141 (.istore 6) 2 1143 := ⟨by decide +kernel, rfl⟩
theorem eL_law_1143 : am_d cL_law 1143 (.aload_n 2) 1 1144 := ⟨by decide +kernel, rfl⟩
theorem eL_law_1144 : am_d cL_law 1144 (.invokevirtual 107) 3 1147 := ⟨by decide +kernel, rfl⟩
theorem eL_law_1147 : am_d cL_law 1147 (.iload 5) 2 1149 := ⟨by decide +kernel, rfl⟩
theorem eL_law_1149 : am_b cL_law 1149 (.if_icmp .eq 5) (5) 1152 1154 := ⟨by decide +kernel, rfl, by decide⟩
theorem eL_law_1152 : am_d cL_law 1152 (.iconst 0) 1 1153 := ⟨by decide +kernel, rfl⟩
theorem eL_law_1153 : am_d cL_law 1153 (.ireturn) 1 1154 := ⟨by decide +kernel, rfl⟩
theorem eL_law_1154 : am_d cL_law 1154 (.iload 5) 2 1156 := ⟨by decide +kernel, rfl⟩
theorem eL_law_1156 : am_b cL_law 1156 (.ifCond .ne 15) (15) 1159 1171 := ⟨by decide +kernel, rfl, by decide⟩
theorem eL_law_1159 : am_d cL_law 1159 (.aload_n 3) 1 1160 := ⟨by decide +kernel, rfl⟩
theorem eL_law_1160 : am_d cL_law 1160 (.iconst 0) 1 1161 := ⟨by decide +kernel, rfl⟩
theorem eL_law_1161 : am_d cL_law 1161 (.laload) 1 1162 := ⟨by decide +kernel, rfl⟩
theorem eL_law_1162 : am_d cL_law 1162 (.iload 6) 2 1164 := ⟨by decide +kernel, rfl⟩
theorem eL_law_1164 : am_d cL_law 1164 (.i2l) 1 1165 := ⟨by decide +kernel, rfl⟩
theorem eL_law_1165 : am_d cL_law 1165 (.lcmp) 1 1166 := ⟨by decide +kernel, rfl⟩
theorem eL_law_1166 : am_b cL_law 1166 (.ifCond .eq 5) (5) 1169 1171 := ⟨by decide +kernel, rfl, by decide⟩
theorem eL_law_1169 : am_d cL_law 1169 (.iconst 0) 1 1170 := ⟨by decide +kernel, rfl⟩
theorem eL_law_1170 : am_d cL_law 1170 (.ireturn) 1 1171 := ⟨by decide +kernel, rfl⟩
theorem eL_law_1171 : am_b cL_law 1171 (.goto 909) (909) 1174 2080 := ⟨by decide +kernel, rfl, by decide⟩
theorem eL_law_1174 : am_d cL_law 1174 (.aload_n 1) 1 1175 := ⟨by decide +kernel, rfl⟩
theorem eL_law_1175 : am_d cL_law 1175 (.aload_n 0) 1 1176 := ⟨by decide +kernel, rfl⟩
theorem eL_law_1176 : am_d cL_law 1176 (.iload 4) 2 1178 := ⟨by decide +kernel, rfl⟩
theorem eL_law_1178 : am_d cL_law 1178 (.iconst 1) 1 1179 := ⟨by decide +kernel, rfl⟩
theorem eL_law_1179 : am_d cL_law 1179 (.iadd) 1 1180 := ⟨by decide +kernel, rfl⟩
theorem eL_law_1180 : am_d cL_law 1180 (.iaload) 1 1181 := ⟨by decide +kernel, rfl⟩
theorem eL_law_1181 : am_d cL_law 1181 (.aload_n 0) 1 1182 := ⟨by decide +kernel, rfl⟩
theorem eL_law_1182 : am_d cL_law 1182 (.iload 4) 2 1184 := ⟨by decide +kernel, rfl⟩
theorem eL_law_1184 : am_d cL_law 1184 (.iconst 2) 1 1185 := ⟨by decide +kernel, rfl⟩
theorem eL_law_1185 : am_d cL_law 1185 (.iadd) 1 1186 := ⟨by decide +kernel, rfl⟩
theorem eL_law_1186 : am_d cL_law 1186 (.iaload) 1 1187 := ⟨by decide +kernel, rfl⟩
theorem eL_law_1187 : am_b cL_law 1187 (.ifCond .eq 7) (7) 1190 1194 := ⟨by decide +kernel, rfl, by decide⟩
theorem eL_law_1190 : am_d cL_law 1190 (.iconst 1) 1 1191 := ⟨by decide +kernel, rfl⟩
theorem eL_law_1191 : am_b cL_law 1191 (.goto 4) (4) 1194 1195 := ⟨by decide +kernel, rfl, by decide⟩
theorem eL_law_1194 : am_d cL_law 1194 (.iconst 0) 1 1195 := ⟨by decide +kernel, rfl⟩
theorem eL_law_1195 : am_d cL_law 1195 (.aload_n 0) 1 1196 := ⟨by decide +kernel, rfl⟩
theorem eL_law_1196 : am_d cL_law 1196 (.iload 4) 2 1198 := ⟨by decide +kernel, rfl⟩
theorem eL_law_1198 : am_d cL_law 1198 (.iconst 3) 1 1199 := ⟨by decide +kernel, rfl⟩
theorem eL_law_1199 : am_d cL_law 1199 (.iadd) 1 1200 := ⟨by decide +kernel, rfl⟩
theorem eL_law_1200 : am_d cL_law 1200 (.iaload) 1 1201 := ⟨by decide +kernel, rfl⟩
theorem eL_law_1201 : am_d cL_law 1201 (.aload_n 3) 1 1202 := ⟨by decide +kernel, rfl⟩
theorem eL_law_1202 : am_d cL_law 1202 (.invokestatic 165) 3 1205 := ⟨by decide +kernel, rfl⟩
theorem eL_law_1205 : am_d cL_law 1205 (.istore 5) 2 1207 := ⟨by decide +kernel, rfl⟩
theorem eL_law_1207 : am_d cL_law 1207 (.aload_n 2) 1 1208 := ⟨by decide +kernel, rfl⟩
theorem eL_law_1208 : am_d cL_law 1208 (.aload_n 0) 1 1209 := ⟨by decide +kernel, rfl⟩
theorem eL_law_1209 : am_d cL_law 1209 (.iload 4) 2 1211 := ⟨by decide +kernel, rfl⟩
theorem eL_law_1211 : am_d cL_law 1211 (.iconst 1) 1 1212 := ⟨by decide +kernel, rfl⟩
theorem eL_law_1212 : am_d cL_law 1212 (.iadd) 1 1213 := ⟨by decide +kernel, rfl⟩
theorem eL_law_1213 : am_d cL_law 1213 (.iaload) 1 1214 := ⟨by decide +kernel, rfl⟩
theorem eL_law_1214 : am_d cL_law 1214 (.aload_n 0) 1 1215 := ⟨by decide +kernel, rfl⟩
theorem eL_law_1215 : am_d cL_law 1215 (.iload 4) 2 1217 := ⟨by decide +kernel, rfl⟩
theorem eL_law_1217 : am_d cL_law 1217 (.iconst 2) 1 1218 := ⟨by decide +kernel, rfl⟩
theorem eL_law_1218 : am_d cL_law 1218 (.iadd) 1 1219 := ⟨by decide +kernel, rfl⟩
theorem eL_law_1219 : am_d cL_law 1219 (.iaload) 1 1220 := ⟨by decide +kernel, rfl⟩
theorem eL_law_1220 : am_b cL_law 1220 (.ifCond .eq 7) (7) 1223 1227 := ⟨by decide +kernel, rfl, by decide⟩
theorem eL_law_1223 : am_d cL_law 1223 (.iconst 1) 1 1224 := ⟨by decide +kernel, rfl⟩
theorem eL_law_1224 : am_b cL_law 1224 (.goto 4) (4) 1227 1228 := ⟨by decide +kernel, rfl, by decide⟩
theorem eL_law_1227 : am_d cL_law 1227 (.iconst 0) 1 1228 := ⟨by decide +kernel, rfl⟩
theorem eL_law_1228 : am_d cL_law 1228 (.aload_n 0) 1 1229 := ⟨by decide +kernel, rfl⟩
theorem eL_law_1229 : am_d cL_law 1229 (.iload 4) 2 1231 := ⟨by decide +kernel, rfl⟩
theorem eL_law_1231 : am_d cL_law 1231 (.iconst 3) 1 1232 := ⟨by decide +kernel, rfl⟩
theorem eL_law_1232 : am_d cL_law 1232 (.iadd) 1 1233 := ⟨by decide +kernel, rfl⟩
theorem eL_law_1233 : am_d cL_law 1233 (.iaload) 1 1234 := ⟨by decide +kernel, rfl⟩
theorem eL_law_1234 : am_d cL_law 1234 (.invokevirtual 168) 3 1237 := ⟨by decide +kernel, rfl⟩
theorem eL_law_1237 : am_d cL_law 1237 (.istore 6) 2 1239 := ⟨by decide +kernel, rfl⟩
theorem eL_law_1239 : am_d cL_law 1239 (.aload_n 2) 1 1240 := ⟨by decide +kernel, rfl⟩
theorem eL_law_1240 : am_d cL_law 1240 (.invokevirtual 107) 3 1243 := ⟨by decide +kernel, rfl⟩
theorem eL_law_1243 : am_d cL_law 1243 (.iload 5) 2 1245 := ⟨by decide +kernel, rfl⟩
theorem eL_law_1245 : am_b cL_law 1245 (.if_icmp .eq 5) (5) 1248 1250 := ⟨by decide +kernel, rfl, by decide⟩
theorem eL_law_1248 : am_d cL_law 1248 (.iconst 0) 1 1249 := ⟨by decide +kernel, rfl⟩
theorem eL_law_1249 : am_d cL_law 1249 (.ireturn) 1 1250 := ⟨by decide +kernel, rfl⟩
theorem eL_law_1250 : am_d cL_law 1250 (.iload 5) 2 1252 := ⟨by decide +kernel, rfl⟩
theorem eL_law_1252 : am_b cL_law 1252 (.ifCond .ne 15) (15) 1255 1267 := ⟨by decide +kernel, rfl, by decide⟩
theorem eL_law_1255 : am_d cL_law 1255 (.aload_n 3) 1 1256 := ⟨by decide +kernel, rfl⟩
theorem eL_law_1256 : am_d cL_law 1256 (.iconst 0) 1 1257 := ⟨by decide +kernel, rfl⟩
theorem eL_law_1257 : am_d cL_law 1257 (.laload) 1 1258 := ⟨by decide +kernel, rfl⟩
theorem eL_law_1258 : am_d cL_law 1258 (.iload 6) 2 1260 := ⟨by decide +kernel, rfl⟩
theorem eL_law_1260 : am_d cL_law 1260 (.i2l) 1 1261 := ⟨by decide +kernel, rfl⟩
theorem eL_law_1261 : am_d cL_law 1261 (.lcmp) 1 1262 := ⟨by decide +kernel, rfl⟩
theorem eL_law_1262 : am_b cL_law 1262 (.ifCond .eq 5) (5) 1265 1267 := ⟨by decide +kernel, rfl, by decide⟩
theorem eL_law_1265 : am_d cL_law 1265 (.iconst 0) 1 1266 := ⟨by decide +kernel, rfl⟩
theorem eL_law_1266 : am_d cL_law 1266 (.ireturn) 1 1267 := ⟨by decide +kernel, rfl⟩
theorem eL_law_1267 : am_b cL_law 1267 (.goto 813) (813) 1270 2080 := ⟨by decide +kernel, rfl, by decide⟩
theorem eL_law_1270 : am_d cL_law 1270 (.aload_n 1) 1 1271 := ⟨by decide +kernel, rfl⟩
theorem eL_law_1271 : am_d cL_law 1271 (.aload_n 0) 1 1272 := ⟨by decide +kernel, rfl⟩
theorem eL_law_1272 : am_d cL_law 1272 (.iload 4) 2 1274 := ⟨by decide +kernel, rfl⟩
theorem eL_law_1274 : am_d cL_law 1274 (.iconst 1) 1 1275 := ⟨by decide +kernel, rfl⟩
theorem eL_law_1275 : am_d cL_law 1275 (.iadd) 1 1276 := ⟨by decide +kernel, rfl⟩
theorem eL_law_1276 : am_d cL_law 1276 (.iaload) 1 1277 := ⟨by decide +kernel, rfl⟩
theorem eL_law_1277 : am_d cL_law 1277 (.aload_n 0) 1 1278 := ⟨by decide +kernel, rfl⟩
theorem eL_law_1278 : am_d cL_law 1278 (.iload 4) 2 1280 := ⟨by decide +kernel, rfl⟩
theorem eL_law_1280 : am_d cL_law 1280 (.iconst 2) 1 1281 := ⟨by decide +kernel, rfl⟩
theorem eL_law_1281 : am_d cL_law 1281 (.iadd) 1 1282 := ⟨by decide +kernel, rfl⟩
theorem eL_law_1282 : am_d cL_law 1282 (.iaload) 1 1283 := ⟨by decide +kernel, rfl⟩
theorem eL_law_1283 : am_b cL_law 1283 (.ifCond .eq 7) (7) 1286 1290 := ⟨by decide +kernel, rfl, by decide⟩
theorem eL_law_1286 : am_d cL_law 1286 (.iconst 1) 1 1287 := ⟨by decide +kernel, rfl⟩
theorem eL_law_1287 : am_b cL_law 1287 (.goto 4) (4) 1290 1291 := ⟨by decide +kernel, rfl, by decide⟩
theorem eL_law_1290 : am_d cL_law 1290 (.iconst 0) 1 1291 := ⟨by decide +kernel, rfl⟩
theorem eL_law_1291 : am_d cL_law 1291 (.aload_n 3) 1 1292 := ⟨by decide +kernel, rfl⟩
theorem eL_law_1292 : am_d cL_law 1292 (.invokestatic 169) 3 1295 := ⟨by decide +kernel, rfl⟩
theorem eL_law_1295 : am_d cL_law 1295 (.istore 5) 2 1297 := ⟨by decide +kernel, rfl⟩
theorem eL_law_1297 : am_d cL_law 1297 (.aload_n 2) 1 1298 := ⟨by decide +kernel, rfl⟩
theorem eL_law_1298 : am_d cL_law 1298 (.aload_n 0) 1 1299 := ⟨by decide +kernel, rfl⟩
theorem eL_law_1299 : am_d cL_law 1299 (.iload 4) 2 1301 := ⟨by decide +kernel, rfl⟩
theorem eL_law_1301 : am_d cL_law 1301 (.iconst 1) 1 1302 := ⟨by decide +kernel, rfl⟩
theorem eL_law_1302 : am_d cL_law 1302 (.iadd) 1 1303 := ⟨by decide +kernel, rfl⟩
theorem eL_law_1303 : am_d cL_law 1303 (.iaload) 1 1304 := ⟨by decide +kernel, rfl⟩
theorem eL_law_1304 : am_d cL_law 1304 (.aload_n 0) 1 1305 := ⟨by decide +kernel, rfl⟩
theorem eL_law_1305 : am_d cL_law 1305 (.iload 4) 2 1307 := ⟨by decide +kernel, rfl⟩
theorem eL_law_1307 : am_d cL_law 1307 (.iconst 2) 1 1308 := ⟨by decide +kernel, rfl⟩
theorem eL_law_1308 : am_d cL_law 1308 (.iadd) 1 1309 := ⟨by decide +kernel, rfl⟩
theorem eL_law_1309 : am_d cL_law 1309 (.iaload) 1 1310 := ⟨by decide +kernel, rfl⟩
theorem eL_law_1310 : am_b cL_law 1310 (.ifCond .eq 7) (7) 1313 1317 := ⟨by decide +kernel, rfl, by decide⟩
theorem eL_law_1313 : am_d cL_law 1313 (.iconst 1) 1 1314 := ⟨by decide +kernel, rfl⟩
theorem eL_law_1314 : am_b cL_law 1314 (.goto 4) (4) 1317 1318 := ⟨by decide +kernel, rfl, by decide⟩
theorem eL_law_1317 : am_d cL_law 1317 (.iconst 0) 1 1318 := ⟨by decide +kernel, rfl⟩
theorem eL_law_1318 : am_d cL_law 1318 (.invokevirtual 171) 3 1321 := ⟨by decide +kernel, rfl⟩
theorem eL_law_1321 : am_d cL_law 1321 (.istore 6) 2 1323 := ⟨by decide +kernel, rfl⟩
theorem eL_law_1323 : am_d cL_law 1323 (.aload_n 2) 1 1324 := ⟨by decide +kernel, rfl⟩
theorem eL_law_1324 : am_d cL_law 1324 (.invokevirtual 107) 3 1327 := ⟨by decide +kernel, rfl⟩
theorem eL_law_1327 : am_d cL_law 1327 (.iload 5) 2 1329 := ⟨by decide +kernel, rfl⟩
theorem eL_law_1329 : am_b cL_law 1329 (.if_icmp .eq 5) (5) 1332 1334 := ⟨by decide +kernel, rfl, by decide⟩
theorem eL_law_1332 : am_d cL_law 1332 (.iconst 0) 1 1333 := ⟨by decide +kernel, rfl⟩
theorem eL_law_1333 : am_d cL_law 1333 (.ireturn) 1 1334 := ⟨by decide +kernel, rfl⟩
theorem eL_law_1334 : am_d cL_law 1334 (.iload 5) 2 1336 := ⟨by decide +kernel, rfl⟩
theorem eL_law_1336 : am_b cL_law 1336 (.ifCond .ne 15) (15) 1339 1351 := ⟨by decide +kernel, rfl, by decide⟩
theorem eL_law_1339 : am_d cL_law 1339 (.aload_n 3) 1 1340 := ⟨by decide +kernel, rfl⟩
theorem eL_law_1340 : am_d cL_law 1340 (.iconst 0) 1 1341 := ⟨by decide +kernel, rfl⟩
theorem eL_law_1341 : am_d cL_law 1341 (.laload) 1 1342 := ⟨by decide +kernel, rfl⟩
theorem eL_law_1342 : am_d cL_law 1342 (.iload 6) 2 1344 := ⟨by decide +kernel, rfl⟩
theorem eL_law_1344 : am_d cL_law 1344 (.i2l) 1 1345 := ⟨by decide +kernel, rfl⟩
theorem eL_law_1345 : am_d cL_law 1345 (.lcmp) 1 1346 := ⟨by decide +kernel, rfl⟩
theorem eL_law_1346 : am_b cL_law 1346 (.ifCond .eq 5) (5) 1349 1351 := ⟨by decide +kernel, rfl, by decide⟩
theorem eL_law_1349 : am_d cL_law 1349 (.iconst 0) 1 1350 := ⟨by decide +kernel, rfl⟩
theorem eL_law_1350 : am_d cL_law 1350 (.ireturn) 1 1351 := ⟨by decide +kernel, rfl⟩
theorem eL_law_1351 : am_b cL_law 1351 (.goto 729) (729) 1354 2080 := ⟨by decide +kernel, rfl, by decide⟩
theorem eL_law_1354 : am_d cL_law 1354 (.aload_n 1) 1 1355 := ⟨by decide +kernel, rfl⟩
theorem eL_law_1355 : am_d cL_law 1355 (.aload_n 0) 1 1356 := ⟨by decide +kernel, rfl⟩
theorem eL_law_1356 : am_d cL_law 1356 (.iload 4) 2 1358 := ⟨by decide +kernel, rfl⟩
theorem eL_law_1358 : am_d cL_law 1358 (.iconst 1) 1 1359 := ⟨by decide +kernel, rfl⟩
theorem eL_law_1359 : am_d cL_law 1359 (.iadd) 1 1360 := ⟨by decide +kernel, rfl⟩
theorem eL_law_1360 : am_d cL_law 1360 (.iaload) 1 1361 := ⟨by decide +kernel, rfl⟩
theorem eL_law_1361 : am_d cL_law 1361 (.aload_n 0) 1 1362 := ⟨by decide +kernel, rfl⟩
theorem eL_law_1362 : am_d cL_law 1362 (.iload 4) 2 1364 := ⟨by decide +kernel, rfl⟩
theorem eL_law_1364 : am_d cL_law 1364 (.iconst 2) 1 1365 := ⟨by decide +kernel, rfl⟩
theorem eL_law_1365 : am_d cL_law 1365 (.iadd) 1 1366 := ⟨by decide +kernel, rfl⟩
theorem eL_law_1366 : am_d cL_law 1366 (.iaload) 1 1367 := ⟨by decide +kernel, rfl⟩
theorem eL_law_1367 : am_b cL_law 1367 (.ifCond .eq 7) (7) 1370 1374 := ⟨by decide +kernel, rfl, by decide⟩
theorem eL_law_1370 : am_d cL_law 1370 (.iconst 1) 1 1371 := ⟨by decide +kernel, rfl⟩
theorem eL_law_1371 : am_b cL_law 1371 (.goto 4) (4) 1374 1375 := ⟨by decide +kernel, rfl, by decide⟩
theorem eL_law_1374 : am_d cL_law 1374 (.iconst 0) 1 1375 := ⟨by decide +kernel, rfl⟩
theorem eL_law_1375 : am_d cL_law 1375 (.aload_n 0) 1 1376 := ⟨by decide +kernel, rfl⟩
theorem eL_law_1376 : am_d cL_law 1376 (.iload 4) 2 1378 := ⟨by decide +kernel, rfl⟩
theorem eL_law_1378 : am_d cL_law 1378 (.iconst 3) 1 1379 := ⟨by decide +kernel, rfl⟩
theorem eL_law_1379 : am_d cL_law 1379 (.iadd) 1 1380 := ⟨by decide +kernel, rfl⟩
theorem eL_law_1380 : am_d cL_law 1380 (.iaload) 1 1381 := ⟨by decide +kernel, rfl⟩
theorem eL_law_1381 : am_d cL_law 1381 (.aload_n 0) 1 1382 := ⟨by decide +kernel, rfl⟩
theorem eL_law_1382 : am_d cL_law 1382 (.iload 4) 2 1384 := ⟨by decide +kernel, rfl⟩
theorem eL_law_1384 : am_d cL_law 1384 (.iconst 4) 1 1385 := ⟨by decide +kernel, rfl⟩
theorem eL_law_1385 : am_d cL_law 1385 (.iadd) 1 1386 := ⟨by decide +kernel, rfl⟩
theorem eL_law_1386 : am_d cL_law 1386 (.iaload) 1 1387 := ⟨by decide +kernel, rfl⟩
theorem eL_law_1387 : am_d cL_law 1387 (.aload_n 3) 1 1388 := ⟨by decide +kernel, rfl⟩
theorem eL_law_1388 : am_d cL_law 1388 (.invokestatic 172) 3 1391 := ⟨by decide +kernel, rfl⟩
theorem eL_law_1391 : am_d cL_law 1391 (.istore 5) 2 1393 := ⟨by decide +kernel, rfl⟩
theorem eL_law_1393 : am_d cL_law 1393 (.aload_n 2) 1 1394 := ⟨by decide +kernel, rfl⟩
theorem eL_law_1394 : am_d cL_law 1394 (.aload_n 0) 1 1395 := ⟨by decide +kernel, rfl⟩
theorem eL_law_1395 : am_d cL_law 1395 (.iload 4) 2 1397 := ⟨by decide +kernel, rfl⟩
theorem eL_law_1397 : am_d cL_law 1397 (.iconst 1) 1 1398 := ⟨by decide +kernel, rfl⟩
theorem eL_law_1398 : am_d cL_law 1398 (.iadd) 1 1399 := ⟨by decide +kernel, rfl⟩
theorem eL_law_1399 : am_d cL_law 1399 (.iaload) 1 1400 := ⟨by decide +kernel, rfl⟩
theorem eL_law_1400 : am_d cL_law 1400 (.aload_n 0) 1 1401 := ⟨by decide +kernel, rfl⟩
theorem eL_law_1401 : am_d cL_law 1401 (.iload 4) 2 1403 := ⟨by decide +kernel, rfl⟩
theorem eL_law_1403 : am_d cL_law 1403 (.iconst 2) 1 1404 := ⟨by decide +kernel, rfl⟩
theorem eL_law_1404 : am_d cL_law 1404 (.iadd) 1 1405 := ⟨by decide +kernel, rfl⟩
theorem eL_law_1405 : am_d cL_law 1405 (.iaload) 1 1406 := ⟨by decide +kernel, rfl⟩
theorem eL_law_1406 : am_b cL_law 1406 (.ifCond .eq 7) (7) 1409 1413 := ⟨by decide +kernel, rfl, by decide⟩
theorem eL_law_1409 : am_d cL_law 1409 (.iconst 1) 1 1410 := ⟨by decide +kernel, rfl⟩
theorem eL_law_1410 : am_b cL_law 1410 (.goto 4) (4) 1413 1414 := ⟨by decide +kernel, rfl, by decide⟩
theorem eL_law_1413 : am_d cL_law 1413 (.iconst 0) 1 1414 := ⟨by decide +kernel, rfl⟩
theorem eL_law_1414 : am_d cL_law 1414 (.aload_n 0) 1 1415 := ⟨by decide +kernel, rfl⟩
theorem eL_law_1415 : am_d cL_law 1415 (.iload 4) 2 1417 := ⟨by decide +kernel, rfl⟩
theorem eL_law_1417 : am_d cL_law 1417 (.iconst 3) 1 1418 := ⟨by decide +kernel, rfl⟩
theorem eL_law_1418 : am_d cL_law 1418 (.iadd) 1 1419 := ⟨by decide +kernel, rfl⟩
theorem eL_law_1419 : am_d cL_law 1419 (.iaload) 1 1420 := ⟨by decide +kernel, rfl⟩
theorem eL_law_1420 : am_d cL_law 1420 (.aload_n 0) 1 1421 := ⟨by decide +kernel, rfl⟩
theorem eL_law_1421 : am_d cL_law 1421 (.iload 4) 2 1423 := ⟨by decide +kernel, rfl⟩
theorem eL_law_1423 : am_d cL_law 1423 (.iconst 4) 1 1424 := ⟨by decide +kernel, rfl⟩
theorem eL_law_1424 : am_d cL_law 1424 (.iadd) 1 1425 := ⟨by decide +kernel, rfl⟩
theorem eL_law_1425 : am_d cL_law 1425 (.iaload) 1 1426 := ⟨by decide +kernel, rfl⟩
theorem eL_law_1426 : am_d cL_law 1426 (.invokevirtual 175) 3 1429 := ⟨by decide +kernel, rfl⟩
theorem eL_law_1429 : am_d cL_law 1429 (.istore 6) 2 1431 := ⟨by decide +kernel, rfl⟩
theorem eL_law_1431 : am_d cL_law 1431 (.aload_n 2) 1 1432 := ⟨by decide +kernel, rfl⟩
theorem eL_law_1432 : am_d cL_law 1432 (.invokevirtual 107) 3 1435 := ⟨by decide +kernel, rfl⟩
theorem eL_law_1435 : am_d cL_law 1435 (.iload 5) 2 1437 := ⟨by decide +kernel, rfl⟩
theorem eL_law_1437 : am_b cL_law 1437 (.if_icmp .eq 5) (5) 1440 1442 := ⟨by decide +kernel, rfl, by decide⟩
theorem eL_law_1440 : am_d cL_law 1440 (.iconst 0) 1 1441 := ⟨by decide +kernel, rfl⟩
theorem eL_law_1441 : am_d cL_law 1441 (.ireturn) 1 1442 := ⟨by decide +kernel, rfl⟩
theorem eL_law_1442 : am_d cL_law 1442 (.iload 5) 2 1444 := ⟨by decide +kernel, rfl⟩
theorem eL_law_1444 : am_b cL_law 1444 (.ifCond .ne 15) (15) 1447 1459 := ⟨by decide +kernel, rfl, by decide⟩
theorem eL_law_1447 : am_d cL_law 1447 (.aload_n 3) 1 1448 := ⟨by decide +kernel, rfl⟩
theorem eL_law_1448 : am_d cL_law 1448 (.iconst 0) 1 1449 := ⟨by decide +kernel, rfl⟩
theorem eL_law_1449 : am_d cL_law 1449 (.laload) 1 1450 := ⟨by decide +kernel, rfl⟩
theorem eL_law_1450 : am_d cL_law 1450 (.iload 6) 2 1452 := ⟨by decide +kernel, rfl⟩
theorem eL_law_1452 : am_d cL_law 1452 (.i2l) 1 1453 := ⟨by decide +kernel, rfl⟩
theorem eL_law_1453 : am_d cL_law 1453 (.lcmp) 1 1454 := ⟨by decide +kernel, rfl⟩
theorem eL_law_1454 : am_b cL_law 1454 (.ifCond .eq 5) (5) 1457 1459 := ⟨by decide +kernel, rfl, by decide⟩
theorem eL_law_1457 : am_d cL_law 1457 (.iconst 0) 1 1458 := ⟨by decide +kernel, rfl⟩
theorem eL_law_1458 : am_d cL_law 1458 (.ireturn) 1 1459 := ⟨by decide +kernel, rfl⟩
theorem eL_law_1459 : am_b cL_law 1459 (.goto 621) (621) 1462 2080 := ⟨by decide +kernel, rfl, by decide⟩
theorem eL_law_1462 : am_d cL_law 1462 (.aload_n 1) 1 1463 := ⟨by decide +kernel, rfl⟩
theorem eL_law_1463 : am_d cL_law 1463 (.aload_n 0) 1 1464 := ⟨by decide +kernel, rfl⟩
theorem eL_law_1464 : am_d cL_law 1464 (.iload 4) 2 1466 := ⟨by decide +kernel, rfl⟩
theorem eL_law_1466 : am_d cL_law 1466 (.iconst 1) 1 1467 := ⟨by decide +kernel, rfl⟩
theorem eL_law_1467 : am_d cL_law 1467 (.iadd) 1 1468 := ⟨by decide +kernel, rfl⟩
theorem eL_law_1468 : am_d cL_law 1468 (.iaload) 1 1469 := ⟨by decide +kernel, rfl⟩
theorem eL_law_1469 : am_d cL_law 1469 (.aload_n 0) 1 1470 := ⟨by decide +kernel, rfl⟩
theorem eL_law_1470 : am_d cL_law 1470 (.iload 4) 2 1472 := ⟨by decide +kernel, rfl⟩
theorem eL_law_1472 : am_d cL_law 1472 (.iconst 2) 1 1473 := ⟨by decide +kernel, rfl⟩
theorem eL_law_1473 : am_d cL_law 1473 (.iadd) 1 1474 := ⟨by decide +kernel, rfl⟩
theorem eL_law_1474 : am_d cL_law 1474 (.iaload) 1 1475 := ⟨by decide +kernel, rfl⟩
theorem eL_law_1475 : am_d cL_law 1475 (.aload_n 0) 1 1476 := ⟨by decide +kernel, rfl⟩
theorem eL_law_1476 : am_d cL_law 1476 (.iload 4) 2 1478 := ⟨by decide +kernel, rfl⟩
theorem eL_law_1478 : am_d cL_law 1478 (.iconst 3) 1 1479 := ⟨by decide +kernel, rfl⟩
theorem eL_law_1479 : am_d cL_law 1479 (.iadd) 1 1480 := ⟨by decide +kernel, rfl⟩
theorem eL_law_1480 : am_d cL_law 1480 (.iaload) 1 1481 := ⟨by decide +kernel, rfl⟩
theorem eL_law_1481 : am_b cL_law 1481 (.ifCond .eq 7) (7) 1484 1488 := ⟨by decide +kernel, rfl, by decide⟩
theorem eL_law_1484 : am_d cL_law 1484 (.iconst 1) 1 1485 := ⟨by decide +kernel, rfl⟩
theorem eL_law_1485 : am_b cL_law 1485 (.goto 4) (4) 1488 1489 := ⟨by decide +kernel, rfl, by decide⟩
theorem eL_law_1488 : am_d cL_law 1488 (.iconst 0) 1 1489 := ⟨by decide +kernel, rfl⟩
theorem eL_law_1489 : am_d cL_law 1489 (.aload_n 3) 1 1490 := ⟨by decide +kernel, rfl⟩
theorem eL_law_1490 : am_d cL_law 1490 (.invokestatic 176) 3 1493 := ⟨by decide +kernel, rfl⟩
theorem eL_law_1493 : am_d cL_law 1493 (.istore 5) 2 1495 := ⟨by decide +kernel, rfl⟩
theorem eL_law_1495 : am_d cL_law 1495 (.aload_n 2) 1 1496 := ⟨by decide +kernel, rfl⟩
theorem eL_law_1496 : am_d cL_law 1496 (.aload_n 0) 1 1497 := ⟨by decide +kernel, rfl⟩
theorem eL_law_1497 : am_d cL_law 1497 (.iload 4) 2 1499 := ⟨by decide +kernel, rfl⟩
theorem eL_law_1499 : am_d cL_law 1499 (.iconst 1) 1 1500 := ⟨by decide +kernel, rfl⟩
theorem eL_law_1500 : am_d cL_law 1500 (.iadd) 1 1501 := ⟨by decide +kernel, rfl⟩
theorem eL_law_1501 : am_d cL_law 1501 (.iaload) 1 1502 := ⟨by decide +kernel, rfl⟩
theorem eL_law_1502 : am_d cL_law 1502 (.aload_n 0) 1 1503 := ⟨by decide +kernel, rfl⟩
theorem eL_law_1503 : am_d cL_law 1503 (.iload 4) 2 1505 := ⟨by decide +kernel, rfl⟩
theorem eL_law_1505 : am_d cL_law 1505 (.iconst 2) 1 1506 := ⟨by decide +kernel, rfl⟩
theorem eL_law_1506 : am_d cL_law 1506 (.iadd) 1 1507 := ⟨by decide +kernel, rfl⟩
theorem eL_law_1507 : am_d cL_law 1507 (.iaload) 1 1508 := ⟨by decide +kernel, rfl⟩
theorem eL_law_1508 : am_d cL_law 1508 (.aload_n 0) 1 1509 := ⟨by decide +kernel, rfl⟩
theorem eL_law_1509 : am_d cL_law 1509 (.iload 4) 2 1511 := ⟨by decide +kernel, rfl⟩
theorem eL_law_1511 : am_d cL_law 1511 (.iconst 3) 1 1512 := ⟨by decide +kernel, rfl⟩
theorem eL_law_1512 : am_d cL_law 1512 (.iadd) 1 1513 := ⟨by decide +kernel, rfl⟩
theorem eL_law_1513 : am_d cL_law 1513 (.iaload) 1 1514 := ⟨by decide +kernel, rfl⟩
theorem eL_law_1514 : am_b cL_law 1514 (.ifCond .eq 7) (7) 1517 1521 := ⟨by decide +kernel, rfl, by decide⟩
theorem eL_law_1517 : am_d cL_law 1517 (.iconst 1) 1 1518 := ⟨by decide +kernel, rfl⟩
theorem eL_law_1518 : am_b cL_law 1518 (.goto 4) (4) 1521 1522 := ⟨by decide +kernel, rfl, by decide⟩
theorem eL_law_1521 : am_d cL_law 1521 (.iconst 0) 1 1522 := ⟨by decide +kernel, rfl⟩
theorem eL_law_1522 : am_d cL_law 1522 (.invokevirtual 179) 3 1525 := ⟨by decide +kernel, rfl⟩
theorem eL_law_1525 : am_d cL_law 1525 (.istore 6) 2 1527 := ⟨by decide +kernel, rfl⟩
theorem eL_law_1527 : am_d cL_law 1527 (.aload_n 2) 1 1528 := ⟨by decide +kernel, rfl⟩
theorem eL_law_1528 : am_d cL_law 1528 (.invokevirtual 107) 3 1531 := ⟨by decide +kernel, rfl⟩
theorem eL_law_1531 : am_d cL_law 1531 (.iload 5) 2 1533 := ⟨by decide +kernel, rfl⟩
theorem eL_law_1533 : am_b cL_law 1533 (.if_icmp .eq 5) (5) 1536 1538 := ⟨by decide +kernel, rfl, by decide⟩
theorem eL_law_1536 : am_d cL_law 1536 (.iconst 0) 1 1537 := ⟨by decide +kernel, rfl⟩
theorem eL_law_1537 : am_d cL_law 1537 (.ireturn) 1 1538 := ⟨by decide +kernel, rfl⟩
theorem eL_law_1538 : am_d cL_law 1538 (.iload 5) 2 1540 := ⟨by decide +kernel, rfl⟩
theorem eL_law_1540 : am_b cL_law 1540 (.ifCond .ne 15) (15) 1543 1555 := ⟨by decide +kernel, rfl, by decide⟩
theorem eL_law_1543 : am_d cL_law 1543 (.aload_n 3) 1 1544 := ⟨by decide +kernel, rfl⟩
theorem eL_law_1544 : am_d cL_law 1544 (.iconst 0) 1 1545 := ⟨by decide +kernel, rfl⟩
theorem eL_law_1545 : am_d cL_law 1545 (.laload) 1 1546 := ⟨by decide +kernel, rfl⟩
theorem eL_law_1546 : am_d cL_law 1546 (.iload 6) 2 1548 := ⟨by decide +kernel, rfl⟩
theorem eL_law_1548 : am_d cL_law 1548 (.i2l) 1 1549 := ⟨by decide +kernel, rfl⟩
theorem eL_law_1549 : am_d cL_law 1549 (.lcmp) 1 1550 := ⟨by decide +kernel, rfl⟩
theorem eL_law_1550 : am_b cL_law 1550 (.ifCond .eq 5) (5) 1553 1555 := ⟨by decide +kernel, rfl, by decide⟩
theorem eL_law_1553 : am_d cL_law 1553 (.iconst 0) 1 1554 := ⟨by decide +kernel, rfl⟩
theorem eL_law_1554 : am_d cL_law 1554 (.ireturn) 1 1555 := ⟨by decide +kernel, rfl⟩
theorem eL_law_1555 : am_b cL_law 1555 (.goto 525) (525) 1558 2080 := ⟨by decide +kernel, rfl, by decide⟩
theorem eL_law_1558 : am_d cL_law 1558 (.aload_n 1) 1 1559 := ⟨by decide +kernel, rfl⟩
theorem eL_law_1559 : am_d cL_law 1559 (.aload_n 0) 1 1560 := ⟨by decide +kernel, rfl⟩
theorem eL_law_1560 : am_d cL_law 1560 (.iload 4) 2 1562 := ⟨by decide +kernel, rfl⟩
theorem eL_law_1562 : am_d cL_law 1562 (.iconst 1) 1 1563 := ⟨by decide +kernel, rfl⟩
theorem eL_law_1563 : am_d cL_law 1563 (.iadd) 1 1564 := ⟨by decide +kernel, rfl⟩
theorem eL_law_1564 : am_d cL_law 1564 (.iaload) 1 1565 := ⟨by decide +kernel, rfl⟩
theorem eL_law_1565 : am_b cL_law 1565 (.ifCond .eq 7) (7) 1568 1572 := ⟨by decide +kernel, rfl, by decide⟩
theorem eL_law_1568 : am_d cL_law 1568 (.iconst 1) 1 1569 := ⟨by decide +kernel, rfl⟩
theorem eL_law_1569 : am_b cL_law 1569 (.goto 4) (4) 1572 1573 := ⟨by decide +kernel, rfl, by decide⟩
theorem eL_law_1572 : am_d cL_law 1572 (.iconst 0) 1 1573 := ⟨by decide +kernel, rfl⟩
theorem eL_law_1573 : am_d cL_law 1573 (.invokevirtual 180) 3 1576 := ⟨by decide +kernel, rfl⟩
theorem eL_law_1576 : am_d cL_law 1576 (.aload_n 2) 1 1577 := ⟨by decide +kernel, rfl⟩
theorem eL_law_1577 : am_d cL_law 1577 (.aload_n 0) 1 1578 := ⟨by decide +kernel, rfl⟩
theorem eL_law_1578 : am_d cL_law 1578 (.iload 4) 2 1580 := ⟨by decide +kernel, rfl⟩
theorem eL_law_1580 : am_d cL_law 1580 (.iconst 1) 1 1581 := ⟨by decide +kernel, rfl⟩
theorem eL_law_1581 : am_d cL_law 1581 (.iadd) 1 1582 := ⟨by decide +kernel, rfl⟩
theorem eL_law_1582 : am_d cL_law 1582 (.iaload) 1 1583 := ⟨by decide +kernel, rfl⟩
theorem eL_law_1583 : am_b cL_law 1583 (.ifCond .eq 7) (7) 1586 1590 := ⟨by decide +kernel, rfl, by decide⟩
theorem eL_law_1586 : am_d cL_law 1586 (.iconst 1) 1 1587 := ⟨by decide +kernel, rfl⟩
theorem eL_law_1587 : am_b cL_law 1587 (.goto 4) (4) 1590 1591 := ⟨by decide +kernel, rfl, by decide⟩
theorem eL_law_1590 : am_d cL_law 1590 (.iconst 0) 1 1591 := ⟨by decide +kernel, rfl⟩
theorem eL_law_1591 : am_d cL_law 1591 (.invokevirtual 184) 3 1594 := ⟨by decide +kernel, rfl⟩
theorem eL_law_1594 : am_b cL_law 1594 (.if_icmp .eq 486) (486) 1597 2080 := ⟨by decide +kernel, rfl, by decide⟩
theorem eL_law_1597 : am_d cL_law 1597 (.iconst 0) 1 1598 := ⟨by decide +kernel, rfl⟩
theorem eL_law_1598 : am_d cL_law 1598 (.ireturn) 1 1599 := ⟨by decide +kernel, rfl⟩
theorem eL_law_1599 : am_d cL_law 1599 (.aload_n 1) 1 1600 := ⟨by decide +kernel, rfl⟩
theorem eL_law_1600 : am_d cL_law 1600 (.aload_n 0) 1 1601 := ⟨by decide +kernel, rfl⟩
theorem eL_law_1601 : am_d cL_law 1601 (.iload 4) 2 1603 := ⟨by decide +kernel, rfl⟩
theorem eL_law_1603 : am_d cL_law 1603 (.iconst 1) 1 1604 := ⟨by decide +kernel, rfl⟩
theorem eL_law_1604 : am_d cL_law 1604 (.iadd) 1 1605 := ⟨by decide +kernel, rfl⟩
theorem eL_law_1605 : am_d cL_law 1605 (.iaload) 1 1606 := ⟨by decide +kernel, rfl⟩
theorem eL_law_1606 : am_b cL_law 1606 (.ifCond .eq 7) (7) 1609 1613 := ⟨by decide +kernel, rfl, by decide⟩
theorem eL_law_1609 : am_d cL_law 1609 (.iconst 1) 1 1610 := ⟨by decide +kernel, rfl⟩
theorem eL_law_1610 : am_b cL_law 1610 (.goto 4) (4) 1613 1614 := ⟨by decide +kernel, rfl, by decide⟩
theorem eL_law_1613 : am_d cL_law 1613 (.iconst 0) 1 1614 := ⟨by decide +kernel, rfl⟩
theorem eL_law_1614 : am_d cL_law 1614 (.aload_n 0) 1 1615 := ⟨by decide +kernel, rfl⟩
theorem eL_law_1615 : am_d cL_law 1615 (.iload 4) 2 1617 := ⟨by decide +kernel, rfl⟩
theorem eL_law_1617 : am_d cL_law 1617 (.iconst 2) 1 1618 := ⟨by decide +kernel, rfl⟩
theorem eL_law_1618 : am_d cL_law 1618 (.iadd) 1 1619 := ⟨by decide +kernel, rfl⟩
theorem eL_law_1619 : am_d cL_law 1619 (.iaload) 1 1620 := ⟨by decide +kernel, rfl⟩
theorem eL_law_1620 : am_d cL_law 1620 (.aload_n 0) 1 1621 := ⟨by decide +kernel, rfl⟩
theorem eL_law_1621 : am_d cL_law 1621 (.iload 4) 2 1623 := ⟨by decide +kernel, rfl⟩
theorem eL_law_1623 : am_d cL_law 1623 (.iconst 3) 1 1624 := ⟨by decide +kernel, rfl⟩
theorem eL_law_1624 : am_d cL_law 1624 (.iadd) 1 1625 := ⟨by decide +kernel, rfl⟩
theorem eL_law_1625 : am_d cL_law 1625 (.iaload) 1 1626 := ⟨by decide +kernel, rfl⟩
theorem eL_law_1626 : am_d cL_law 1626 (.aload_n 3) 1 1627 := ⟨by decide +kernel, rfl⟩
theorem eL_law_1627 : am_d cL_law 1627 (.invokestatic 185) 3 1630 := ⟨by decide +kernel, rfl⟩
theorem eL_law_1630 : am_d cL_law 1630 (.istore 5) 2 1632 := ⟨by decide +kernel, rfl⟩
theorem eL_law_1632 : am_d cL_law 1632 (.aload_n 2) 1 1633 := ⟨by decide +kernel, rfl⟩
theorem eL_law_1633 : am_d cL_law 1633 (.aload_n 0) 1 1634 := ⟨by decide +kernel, rfl⟩
theorem eL_law_1634 : am_d cL_law 1634 (.iload 4) 2 1636 := ⟨by decide +kernel, rfl⟩
theorem eL_law_1636 : am_d cL_law 1636 (.iconst 1) 1 1637 := ⟨by decide +kernel, rfl⟩
theorem eL_law_1637 : am_d cL_law 1637 (.iadd) 1 1638 := ⟨by decide +kernel, rfl⟩
theorem eL_law_1638 : am_d cL_law 1638 (.iaload) 1 1639 := ⟨by decide +kernel, rfl⟩
theorem eL_law_1639 : am_b cL_law 1639 (.ifCond .eq 7) (7) 1642 1646 := ⟨by decide +kernel, rfl, by decide⟩
theorem eL_law_1642 : am_d cL_law 1642 (.iconst 1) 1 1643 := ⟨by decide +kernel, rfl⟩
theorem eL_law_1643 : am_b cL_law 1643 (.goto 4) (4) 1646 1647 := ⟨by decide +kernel, rfl, by decide⟩
theorem eL_law_1646 : am_d cL_law 1646 (.iconst 0) 1 1647 := ⟨by decide +kernel, rfl⟩
theorem eL_law_1647 : am_d cL_law 1647 (.aload_n 0) 1 1648 := ⟨by decide +kernel, rfl⟩
theorem eL_law_1648 : am_d cL_law 1648 (.iload 4) 2 1650 := ⟨by decide +kernel, rfl⟩
theorem eL_law_1650 : am_d cL_law 1650 (.iconst 2) 1 1651 := ⟨by decide +kernel, rfl⟩
theorem eL_law_1651 : am_d cL_law 1651 (.iadd) 1 1652 := ⟨by decide +kernel, rfl⟩
theorem eL_law_1652 : am_d cL_law 1652 (.iaload) 1 1653 := ⟨by decide +kernel, rfl⟩
theorem eL_law_1653 : am_d cL_law 1653 (.aload_n 0) 1 1654 := ⟨by decide +kernel, rfl⟩
theorem eL_law_1654 : am_d cL_law 1654 (.iload 4) 2 1656 := ⟨by decide +kernel, rfl⟩
theorem eL_law_1656 : am_d cL_law 1656 (.iconst 3) 1 1657 := ⟨by decide +kernel, rfl⟩
theorem eL_law_1657 : am_d cL_law 1657 (.iadd) 1 1658 := ⟨by decide +kernel, rfl⟩
theorem eL_law_1658 : am_d cL_law 1658 (.iaload) 1 1659 := ⟨by decide +kernel, rfl⟩
theorem eL_law_1659 : am_d cL_law 1659 (.invokevirtual 188) 3 1662 := ⟨by decide +kernel, rfl⟩
theorem eL_law_1662 : am_d cL_law 1662 (.istore 6) 2 1664 := ⟨by decide +kernel, rfl⟩
theorem eL_law_1664 : am_d cL_law 1664 (.aload_n 2) 1 1665 := ⟨by decide +kernel, rfl⟩
theorem eL_law_1665 : am_d cL_law 1665 (.invokevirtual 107) 3 1668 := ⟨by decide +kernel, rfl⟩
theorem eL_law_1668 : am_d cL_law 1668 (.iload 5) 2 1670 := ⟨by decide +kernel, rfl⟩
theorem eL_law_1670 : am_b cL_law 1670 (.if_icmp .eq 5) (5) 1673 1675 := ⟨by decide +kernel, rfl, by decide⟩
theorem eL_law_1673 : am_d cL_law 1673 (.iconst 0) 1 1674 := ⟨by decide +kernel, rfl⟩
theorem eL_law_1674 : am_d cL_law 1674 (.ireturn) 1 1675 := ⟨by decide +kernel, rfl⟩
theorem eL_law_1675 : am_d cL_law 1675 (.iload 5) 2 1677 := ⟨by decide +kernel, rfl⟩
theorem eL_law_1677 : am_b cL_law 1677 (.ifCond .ne 15) (15) 1680 1692 := ⟨by decide +kernel, rfl, by decide⟩
theorem eL_law_1680 : am_d cL_law 1680 (.aload_n 3) 1 1681 := ⟨by decide +kernel, rfl⟩
theorem eL_law_1681 : am_d cL_law 1681 (.iconst 0) 1 1682 := ⟨by decide +kernel, rfl⟩
theorem eL_law_1682 : am_d cL_law 1682 (.laload) 1 1683 := ⟨by decide +kernel, rfl⟩
theorem eL_law_1683 : am_d cL_law 1683 (.iload 6) 2 1685 := ⟨by decide +kernel, rfl⟩
theorem eL_law_1685 : am_d cL_law 1685 (.i2l) 1 1686 := ⟨by decide +kernel, rfl⟩
theorem eL_law_1686 : am_d cL_law 1686 (.lcmp) 1 1687 := ⟨by decide +kernel, rfl⟩
theorem eL_law_1687 : am_b cL_law 1687 (.ifCond .eq 5) (5) 1690 1692 := ⟨by decide +kernel, rfl, by decide⟩
theorem eL_law_1690 : am_d cL_law 1690 (.iconst 0) 1 1691 := ⟨by decide +kernel, rfl⟩
theorem eL_law_1691 : am_d cL_law 1691 (.ireturn) 1 1692 := ⟨by decide +kernel, rfl⟩
theorem eL_law_1692 : am_b cL_law 1692 (.goto 388) (388) 1695 2080 := ⟨by decide +kernel, rfl, by decide⟩
theorem eL_law_1695 : am_d cL_law 1695 (.aload_n 1) 1 1696 := ⟨by decide +kernel, rfl⟩
theorem eL_law_1696 : am_d cL_law 1696 (.aload_n 0) 1 1697 := ⟨by decide +kernel, rfl⟩
theorem eL_law_1697 : am_d cL_law 1697 (.iload 4) 2 1699 := ⟨by decide +kernel, rfl⟩
theorem eL_law_1699 : am_d cL_law 1699 (.iconst 1) 1 1700 := ⟨by decide +kernel, rfl⟩
theorem eL_law_1700 : am_d cL_law 1700 (.iadd) 1 1701 := ⟨by decide +kernel, rfl⟩
theorem eL_law_1701 : am_d cL_law 1701 (.iaload) 1 1702 := ⟨by decide +kernel, rfl⟩
theorem eL_law_1702 : am_b cL_law 1702 (.ifCond .eq 7) (7) 1705 1709 := ⟨by decide +kernel, rfl, by decide⟩
theorem eL_law_1705 : am_d cL_law 1705 (.iconst 1) 1 1706 := ⟨by decide +kernel, rfl⟩
theorem eL_law_1706 : am_b cL_law 1706 (.goto 4) (4) 1709 1710 := ⟨by decide +kernel, rfl, by decide⟩
theorem eL_law_1709 : am_d cL_law 1709 (.iconst 0) 1 1710 := ⟨by decide +kernel, rfl⟩
theorem eL_law_1710 : am_d cL_law 1710 (.aload_n 0) 1 1711 := ⟨by decide +kernel, rfl⟩
theorem eL_law_1711 : am_d cL_law 1711 (.iload 4) 2 1713 := ⟨by decide +kernel, rfl⟩
theorem eL_law_1713 : am_d cL_law 1713 (.iconst 2) 1 1714 := ⟨by decide +kernel, rfl⟩
theorem eL_law_1714 : am_d cL_law 1714 (.iadd) 1 1715 := ⟨by decide +kernel, rfl⟩
theorem eL_law_1715 : am_d cL_law 1715 (.iaload) 1 1716 := ⟨by decide +kernel, rfl⟩
theorem eL_law_1716 : am_d cL_law 1716 (.aload_n 0) 1 1717 := ⟨by decide +kernel, rfl⟩
theorem eL_law_1717 : am_d cL_law 1717 (.iload 4) 2 1719 := ⟨by decide +kernel, rfl⟩
theorem eL_law_1719 : am_d cL_law 1719 (.iconst 3) 1 1720 := ⟨by decide +kernel, rfl⟩
theorem eL_law_1720 : am_d cL_law 1720 (.iadd) 1 1721 := ⟨by decide +kernel, rfl⟩
theorem eL_law_1721 : am_d cL_law 1721 (.iaload) 1 1722 := ⟨by decide +kernel, rfl⟩
theorem eL_law_1722 : am_d cL_law 1722 (.aload_n 0) 1 1723 := ⟨by decide +kernel, rfl⟩
theorem eL_law_1723 : am_d cL_law 1723 (.iload 4) 2 1725 := ⟨by decide +kernel, rfl⟩
theorem eL_law_1725 : am_d cL_law 1725 (.iconst 4) 1 1726 := ⟨by decide +kernel, rfl⟩
theorem eL_law_1726 : am_d cL_law 1726 (.iadd) 1 1727 := ⟨by decide +kernel, rfl⟩
theorem eL_law_1727 : am_d cL_law 1727 (.iaload) 1 1728 := ⟨by decide +kernel, rfl⟩
theorem eL_law_1728 : am_d cL_law 1728 (.aload_n 3) 1 1729 := ⟨by decide +kernel, rfl⟩
theorem eL_law_1729 : am_d cL_law 1729 (.invokestatic 189) 3 1732 := ⟨by decide +kernel, rfl⟩
theorem eL_law_1732 : am_d cL_law 1732 (.istore 5) 2 1734 := ⟨by decide +kernel, rfl⟩
theorem eL_law_1734 : am_d cL_law 1734 (.aload_n 2) 1 1735 := ⟨by decide +kernel, rfl⟩
theorem eL_law_1735 : am_d cL_law 1735 (.aload_n 0) 1 1736 := ⟨by decide +kernel, rfl⟩
theorem eL_law_1736 : am_d cL_law 1736 (.iload 4) 2 1738 := ⟨by decide +kernel, rfl⟩
theorem eL_law_1738 : am_d cL_law 1738 (.iconst 1) 1 1739 := ⟨by decide +kernel, rfl⟩
theorem eL_law_1739 : am_d cL_law 1739 (.iadd) 1 1740 := ⟨by decide +kernel, rfl⟩
theorem eL_law_1740 : am_d cL_law 1740 (.iaload) 1 1741 := ⟨by decide +kernel, rfl⟩
theorem eL_law_1741 : am_b cL_law 1741 (.ifCond .eq 7) (7) 1744 1748 := ⟨by decide +kernel, rfl, by decide⟩
theorem eL_law_1744 : am_d cL_law 1744 (.iconst 1) 1 1745 := ⟨by decide +kernel, rfl⟩
theorem eL_law_1745 : am_b cL_law 1745 (.goto 4) (4) 1748 1749 := ⟨by decide +kernel, rfl, by decide⟩
theorem eL_law_1748 : am_d cL_law 1748 (.iconst 0) 1 1749 := ⟨by decide +kernel, rfl⟩
theorem eL_law_1749 : am_d cL_law 1749 (.aload_n 0) 1 1750 := ⟨by decide +kernel, rfl⟩
theorem eL_law_1750 : am_d cL_law 1750 (.iload 4) 2 1752 := ⟨by decide +kernel, rfl⟩
theorem eL_law_1752 : am_d cL_law 1752 (.iconst 2) 1 1753 := ⟨by decide +kernel, rfl⟩
theorem eL_law_1753 : am_d cL_law 1753 (.iadd) 1 1754 := ⟨by decide +kernel, rfl⟩
theorem eL_law_1754 : am_d cL_law 1754 (.iaload) 1 1755 := ⟨by decide +kernel, rfl⟩
theorem eL_law_1755 : am_d cL_law 1755 (.aload_n 0) 1 1756 := ⟨by decide +kernel, rfl⟩
theorem eL_law_1756 : am_d cL_law 1756 (.iload 4) 2 1758 := ⟨by decide +kernel, rfl⟩
theorem eL_law_1758 : am_d cL_law 1758 (.iconst 3) 1 1759 := ⟨by decide +kernel, rfl⟩
theorem eL_law_1759 : am_d cL_law 1759 (.iadd) 1 1760 := ⟨by decide +kernel, rfl⟩
theorem eL_law_1760 : am_d cL_law 1760 (.iaload) 1 1761 := ⟨by decide +kernel, rfl⟩
theorem eL_law_1761 : am_d cL_law 1761 (.aload_n 0) 1 1762 := ⟨by decide +kernel, rfl⟩
theorem eL_law_1762 : am_d cL_law 1762 (.iload 4) 2 1764 := ⟨by decide +kernel, rfl⟩
theorem eL_law_1764 : am_d cL_law 1764 (.iconst 4) 1 1765 := ⟨by decide +kernel, rfl⟩
theorem eL_law_1765 : am_d cL_law 1765 (.iadd) 1 1766 := ⟨by decide +kernel, rfl⟩
theorem eL_law_1766 : am_d cL_law 1766 (.iaload) 1 1767 := ⟨by decide +kernel, rfl⟩
theorem eL_law_1767 : am_d cL_law 1767 (.invokevirtual 192) 3 1770 := ⟨by decide +kernel, rfl⟩
theorem eL_law_1770 : am_d cL_law 1770 (.istore 6) 2 1772 := ⟨by decide +kernel, rfl⟩
theorem eL_law_1772 : am_d cL_law 1772 (.aload_n 2) 1 1773 := ⟨by decide +kernel, rfl⟩
theorem eL_law_1773 : am_d cL_law 1773 (.invokevirtual 107) 3 1776 := ⟨by decide +kernel, rfl⟩
theorem eL_law_1776 : am_d cL_law 1776 (.iload 5) 2 1778 := ⟨by decide +kernel, rfl⟩
theorem eL_law_1778 : am_b cL_law 1778 (.if_icmp .eq 5) (5) 1781 1783 := ⟨by decide +kernel, rfl, by decide⟩
theorem eL_law_1781 : am_d cL_law 1781 (.iconst 0) 1 1782 := ⟨by decide +kernel, rfl⟩
theorem eL_law_1782 : am_d cL_law 1782 (.ireturn) 1 1783 := ⟨by decide +kernel, rfl⟩
theorem eL_law_1783 : am_d cL_law 1783 (.iload 5) 2 1785 := ⟨by decide +kernel, rfl⟩
theorem eL_law_1785 : am_b cL_law 1785 (.ifCond .ne 15) (15) 1788 1800 := ⟨by decide +kernel, rfl, by decide⟩
theorem eL_law_1788 : am_d cL_law 1788 (.aload_n 3) 1 1789 := ⟨by decide +kernel, rfl⟩
theorem eL_law_1789 : am_d cL_law 1789 (.iconst 0) 1 1790 := ⟨by decide +kernel, rfl⟩
theorem eL_law_1790 : am_d cL_law 1790 (.laload) 1 1791 := ⟨by decide +kernel, rfl⟩
theorem eL_law_1791 : am_d cL_law 1791 (.iload 6) 2 1793 := ⟨by decide +kernel, rfl⟩
theorem eL_law_1793 : am_d cL_law 1793 (.i2l) 1 1794 := ⟨by decide +kernel, rfl⟩
theorem eL_law_1794 : am_d cL_law 1794 (.lcmp) 1 1795 := ⟨by decide +kernel, rfl⟩
theorem eL_law_1795 : am_b cL_law 1795 (.ifCond .eq 5) (5) 1798 1800 := ⟨by decide +kernel, rfl, by decide⟩
theorem eL_law_1798 : am_d cL_law 1798 (.iconst 0) 1 1799 := ⟨by decide +kernel, rfl⟩
theorem eL_law_1799 : am_d cL_law 1799 (.ireturn) 1 1800 := ⟨by decide +kernel, rfl⟩
theorem eL_law_1800 : am_b cL_law 1800 (.goto 280) (280) 1803 2080 := ⟨by decide +kernel, rfl, by decide⟩
theorem eL_law_1803 : am_d cL_law 1803 (.aload_n 1) 1 1804 := ⟨by decide +kernel, rfl⟩
theorem eL_law_1804 : am_d cL_law 1804 (.aload_n 0) 1 1805 := ⟨by decide +kernel, rfl⟩
theorem eL_law_1805 : am_d cL_law 1805 (.iload 4) 2 1807 := ⟨by decide +kernel, rfl⟩
theorem eL_law_1807 : am_d cL_law 1807 (.iconst 1) 1 1808 := ⟨by decide +kernel, rfl⟩
theorem eL_law_1808 : am_d cL_law 1808 (.iadd) 1 1809 := ⟨by decide +kernel, rfl⟩
theorem eL_law_1809 : am_d cL_law 1809 (.iaload) 1 1810 := ⟨by decide +kernel, rfl⟩
theorem eL_law_1810 : am_b cL_law 1810 (.ifCond .eq 7) (7) 1813 1817 := ⟨by decide +kernel, rfl, by decide⟩
theorem eL_law_1813 : am_d cL_law 1813 (.iconst 1) 1 1814 := ⟨by decide +kernel, rfl⟩
theorem eL_law_1814 : am_b cL_law 1814 (.goto 4) (4) 1817 1818 := ⟨by decide +kernel, rfl, by decide⟩
theorem eL_law_1817 : am_d cL_law 1817 (.iconst 0) 1 1818 := ⟨by decide +kernel, rfl⟩
theorem eL_law_1818 : am_d cL_law 1818 (.invokevirtual 193) 3 1821 := ⟨by decide +kernel, rfl⟩
theorem eL_law_1821 : am_d cL_law 1821 (.aload_n 2) 1 1822 := ⟨by decide +kernel, rfl⟩
theorem eL_law_1822 : am_d cL_law 1822 (.aload_n 0) 1 1823 := ⟨by decide +kernel, rfl⟩
theorem eL_law_1823 : am_d cL_law 1823 (.iload 4) 2 1825 := ⟨by decide +kernel, rfl⟩
theorem eL_law_1825 : am_d cL_law 1825 (.iconst 1) 1 1826 := ⟨by decide +kernel, rfl⟩
theorem eL_law_1826 : am_d cL_law 1826 (.iadd) 1 1827 := ⟨by decide +kernel, rfl⟩
theorem eL_law_1827 : am_d cL_law 1827 (.iaload) 1 1828 := ⟨by decide +kernel, rfl⟩
theorem eL_law_1828 : am_b cL_law 1828 (.ifCond .eq 7) (7) 1831 1835 := ⟨by decide +kernel, rfl, by decide⟩
theorem eL_law_1831 : am_d cL_law 1831 (.iconst 1) 1 1832 := ⟨by decide +kernel, rfl⟩
theorem eL_law_1832 : am_b cL_law 1832 (.goto 4) (4) 1835 1836 := ⟨by decide +kernel, rfl, by decide⟩
theorem eL_law_1835 : am_d cL_law 1835 (.iconst 0) 1 1836 := ⟨by decide +kernel, rfl⟩
theorem eL_law_1836 : am_d cL_law 1836 (.invokevirtual 196) 3 1839 := ⟨by decide +kernel, rfl⟩
theorem eL_law_1839 : am_b cL_law 1839 (.if_icmp .eq 241) (241) 1842 2080 := ⟨by decide +kernel, rfl, by decide⟩
theorem eL_law_1842 : am_d cL_law 1842 (.iconst 0) 1 1843 := ⟨by decide +kernel, rfl⟩
theorem eL_law_1843 : am_d cL_law 1843 (.ireturn) 1 1844 := ⟨by decide +kernel, rfl⟩
theorem eL_law_1844 : am_d cL_law 1844 (.aload_n 1) 1 1845 := ⟨by decide +kernel, rfl⟩
theorem eL_law_1845 : am_d cL_law 1845 (.aload_n 0) 1 1846 := ⟨by decide +kernel, rfl⟩
theorem eL_law_1846 : am_d cL_law 1846 (.iload 4) 2 1848 := ⟨by decide +kernel, rfl⟩
theorem eL_law_1848 : am_d cL_law 1848 (.iconst 1) 1 1849 := ⟨by decide +kernel, rfl⟩
theorem eL_law_1849 : am_d cL_law 1849 (.iadd) 1 1850 := ⟨by decide +kernel, rfl⟩
theorem eL_law_1850 : am_d cL_law 1850 (.iaload) 1 1851 := ⟨by decide +kernel, rfl⟩
theorem eL_law_1851 : am_d cL_law 1851 (.aload_n 3) 1 1852 := ⟨by decide +kernel, rfl⟩
theorem eL_law_1852 : am_d cL_law 1852 (.invokestatic 197) 3 1855 := ⟨by decide +kernel, rfl⟩
theorem eL_law_1855 : am_d cL_law 1855 (.istore 5) 2 1857 := ⟨by decide +kernel, rfl⟩
theorem eL_law_1857 : am_d cL_law 1857 (.aload_n 2) 1 1858 := ⟨by decide +kernel, rfl⟩
theorem eL_law_1858 : am_d cL_law 1858 (.aload_n 0) 1 1859 := ⟨by decide +kernel, rfl⟩
theorem eL_law_1859 : am_d cL_law 1859 (.iload 4) 2 1861 := ⟨by decide +kernel, rfl⟩
theorem eL_law_1861 : am_d cL_law 1861 (.iconst 1) 1 1862 := ⟨by decide +kernel, rfl⟩
theorem eL_law_1862 : am_d cL_law 1862 (.iadd) 1 1863 := ⟨by decide +kernel, rfl⟩
theorem eL_law_1863 : am_d cL_law 1863 (.iaload) 1 1864 := ⟨by decide +kernel, rfl⟩
theorem eL_law_1864 : am_d cL_law 1864 (.invokevirtual 199) 3 1867 := ⟨by decide +kernel, rfl⟩
theorem eL_law_1867 : am_d cL_law 1867 (.istore 6) 2 1869 := ⟨by decide +kernel, rfl⟩
theorem eL_law_1869 : am_d cL_law 1869 (.aload_n 2) 1 1870 := ⟨by decide +kernel, rfl⟩
theorem eL_law_1870 : am_d cL_law 1870 (.invokevirtual 107) 3 1873 := ⟨by decide +kernel, rfl⟩
theorem eL_law_1873 : am_d cL_law 1873 (.iload 5) 2 1875 := ⟨by decide +kernel, rfl⟩
theorem eL_law_1875 : am_b cL_law 1875 (.if_icmp .eq 5) (5) 1878 1880 := ⟨by decide +kernel, rfl, by decide⟩
theorem eL_law_1878 : am_d cL_law 1878 (.iconst 0) 1 1879 := ⟨by decide +kernel, rfl⟩
theorem eL_law_1879 : am_d cL_law 1879 (.ireturn) 1 1880 := ⟨by decide +kernel, rfl⟩
theorem eL_law_1880 : am_d cL_law 1880 (.iload 5) 2 1882 := ⟨by decide +kernel, rfl⟩
theorem eL_law_1882 : am_b cL_law 1882 (.ifCond .ne 15) (15) 1885 1897 := ⟨by decide +kernel, rfl, by decide⟩
theorem eL_law_1885 : am_d cL_law 1885 (.aload_n 3) 1 1886 := ⟨by decide +kernel, rfl⟩
theorem eL_law_1886 : am_d cL_law 1886 (.iconst 0) 1 1887 := ⟨by decide +kernel, rfl⟩
theorem eL_law_1887 : am_d cL_law 1887 (.laload) 1 1888 := ⟨by decide +kernel, rfl⟩
theorem eL_law_1888 : am_d cL_law 1888 (.iload 6) 2 1890 := ⟨by decide +kernel, rfl⟩
theorem eL_law_1890 : am_d cL_law 1890 (.i2l) 1 1891 := ⟨by decide +kernel, rfl⟩
theorem eL_law_1891 : am_d cL_law 1891 (.lcmp) 1 1892 := ⟨by decide +kernel, rfl⟩
theorem eL_law_1892 : am_b cL_law 1892 (.ifCond .eq 5) (5) 1895 1897 := ⟨by decide +kernel, rfl, by decide⟩
theorem eL_law_1895 : am_d cL_law 1895 (.iconst 0) 1 1896 := ⟨by decide +kernel, rfl⟩
theorem eL_law_1896 : am_d cL_law 1896 (.ireturn) 1 1897 := ⟨by decide +kernel, rfl⟩
theorem eL_law_1897 : am_b cL_law 1897 (.goto 183) (183) 1900 2080 := ⟨by decide +kernel, rfl, by decide⟩
theorem eL_law_1900 : am_d cL_law 1900 (.aload_n 1) 1 1901 := ⟨by decide +kernel, rfl⟩
theorem eL_law_1901 : am_d cL_law 1901 (.aload_n 0) 1 1902 := ⟨by decide +kernel, rfl⟩
theorem eL_law_1902 : am_d cL_law 1902 (.iload 4) 2 1904 := ⟨by decide +kernel, rfl⟩
theorem eL_law_1904 : am_d cL_law 1904 (.iconst 1) 1 1905 := ⟨by decide +kernel, rfl⟩
theorem eL_law_1905 : am_d cL_law 1905 (.iadd) 1 1906 := ⟨by decide +kernel, rfl⟩
theorem eL_law_1906 : am_d cL_law 1906 (.iaload) 1 1907 := ⟨by decide +kernel, rfl⟩
theorem eL_law_1907 : am_d cL_law 1907 (.aload_n 0) 1 1908 := ⟨by decide +kernel, rfl⟩
theorem eL_law_1908 : am_d cL_law 1908 (.iload 4) 2 1910 := ⟨by decide +kernel, rfl⟩
theorem eL_law_1910 : am_d cL_law 1910 (.iconst 2) 1 1911 := ⟨by decide +kernel, rfl⟩
theorem eL_law_1911 : am_d cL_law 1911 (.iadd) 1 1912 := ⟨by decide +kernel, rfl⟩
theorem eL_law_1912 : am_d cL_law 1912 (.iaload) 1 1913 := ⟨by decide +kernel, rfl⟩
theorem eL_law_1913 : am_d cL_law 1913 (.aload_n 3) 1 1914 := ⟨by decide +kernel, rfl⟩
theorem eL_law_1914 : am_d cL_law 1914 (.invokestatic 200) 3 1917 := ⟨by decide +kernel, rfl⟩
theorem eL_law_1917 : am_d cL_law 1917 (.istore 5) 2 1919 := ⟨by decide +kernel, rfl⟩
theorem eL_law_1919 : am_d cL_law 1919 (.aload_n 2) 1 1920 := ⟨by decide +kernel, rfl⟩
theorem eL_law_1920 : am_d cL_law 1920 (.aload_n 0) 1 1921 := ⟨by decide +kernel, rfl⟩
theorem eL_law_1921 : am_d cL_law 1921 (.iload 4) 2 1923 := ⟨by decide +kernel, rfl⟩
theorem eL_law_1923 : am_d cL_law 1923 (.iconst 1) 1 1924 := ⟨by decide +kernel, rfl⟩
theorem eL_law_1924 : am_d cL_law 1924 (.iadd) 1 1925 := ⟨by decide +kernel, rfl⟩
theorem eL_law_1925 : am_d cL_law 1925 (.iaload) 1 1926 := ⟨by decide +kernel, rfl⟩
theorem eL_law_1926 : am_d cL_law 1926 (.aload_n 0) 1 1927 := ⟨by decide +kernel, rfl⟩
theorem eL_law_1927 : am_d cL_law 1927 (.iload 4) 2 1929 := ⟨by decide +kernel, rfl⟩
theorem eL_law_1929 : am_d cL_law 1929 (.iconst 2) 1 1930 := ⟨by decide +kernel, rfl⟩
theorem eL_law_1930 : am_d cL_law 1930 (.iadd) 1 1931 := ⟨by decide +kernel, rfl⟩
theorem eL_law_1931 : am_d cL_law 1931 (.iaload) 1 1932 := ⟨by decide +kernel, rfl⟩
theorem eL_law_1932 : am_d cL_law 1932 (.invokevirtual 202) 3 1935 := ⟨by decide +kernel, rfl⟩
theorem eL_law_1935 : am_d cL_law 1935 (.istore 6) 2 1937 := ⟨by decide +kernel, rfl⟩
theorem eL_law_1937 : am_d cL_law 1937 (.aload_n 2) 1 1938 := ⟨by decide +kernel, rfl⟩
theorem eL_law_1938 : am_d cL_law 1938 (.invokevirtual 107) 3 1941 := ⟨by decide +kernel, rfl⟩
theorem eL_law_1941 : am_d cL_law 1941 (.iload 5) 2 1943 := ⟨by decide +kernel, rfl⟩
theorem eL_law_1943 : am_b cL_law 1943 (.if_icmp .eq 5) (5) 1946 1948 := ⟨by decide +kernel, rfl, by decide⟩
theorem eL_law_1946 : am_d cL_law 1946 (.iconst 0) 1 1947 := ⟨by decide +kernel, rfl⟩
theorem eL_law_1947 : am_d cL_law 1947 (.ireturn) 1 1948 := ⟨by decide +kernel, rfl⟩
theorem eL_law_1948 : am_d cL_law 1948 (.iload 5) 2 1950 := ⟨by decide +kernel, rfl⟩
theorem eL_law_1950 : am_b cL_law 1950 (.ifCond .ne 15) (15) 1953 1965 := ⟨by decide +kernel, rfl, by decide⟩
theorem eL_law_1953 : am_d cL_law 1953 (.aload_n 3) 1 1954 := ⟨by decide +kernel, rfl⟩
theorem eL_law_1954 : am_d cL_law 1954 (.iconst 0) 1 1955 := ⟨by decide +kernel, rfl⟩
theorem eL_law_1955 : am_d cL_law 1955 (.laload) 1 1956 := ⟨by decide +kernel, rfl⟩
theorem eL_law_1956 : am_d cL_law 1956 (.iload 6) 2 1958 := ⟨by decide +kernel, rfl⟩
theorem eL_law_1958 : am_d cL_law 1958 (.i2l) 1 1959 := ⟨by decide +kernel, rfl⟩
theorem eL_law_1959 : am_d cL_law 1959 (.lcmp) 1 1960 := ⟨by decide +kernel, rfl⟩
theorem eL_law_1960 : am_b cL_law 1960 (.ifCond .eq 5) (5) 1963 1965 := ⟨by decide +kernel, rfl, by decide⟩
theorem eL_law_1963 : am_d cL_law 1963 (.iconst 0) 1 1964 := ⟨by decide +kernel, rfl⟩
theorem eL_law_1964 : am_d cL_law 1964 (.ireturn) 1 1965 := ⟨by decide +kernel, rfl⟩
theorem eL_law_1965 : am_b cL_law 1965 (.goto 115) (115) 1968 2080 := ⟨by decide +kernel, rfl, by decide⟩
theorem eL_law_1968 : am_d cL_law 1968 (.aload_n 1) 1 1969 := ⟨by decide +kernel, rfl⟩
theorem eL_law_1969 : am_d cL_law 1969 (.aload_n 0) 1 1970 := ⟨by decide +kernel, rfl⟩
theorem eL_law_1970 : am_d cL_law 1970 (.iload 4) 2 1972 := ⟨by decide +kernel, rfl⟩
theorem eL_law_1972 : am_d cL_law 1972 (.iconst 1) 1 1973 := ⟨by decide +kernel, rfl⟩
theorem eL_law_1973 : am_d cL_law 1973 (.iadd) 1 1974 := ⟨by decide +kernel, rfl⟩
theorem eL_law_1974 : am_d cL_law 1974 (.iaload) 1 1975 := ⟨by decide +kernel, rfl⟩
theorem eL_law_1975 : am_d cL_law 1975 (.aload_n 3) 1 1976 := ⟨by decide +kernel, rfl⟩
theorem eL_law_1976 : am_d cL_law 1976 (.invokestatic 203) 3 1979 := ⟨by decide +kernel, rfl⟩
theorem eL_law_1979 : am_d cL_law 1979 (.istore 5) 2 1981 := ⟨by decide +kernel, rfl⟩
theorem eL_law_1981 : am_d cL_law 1981 (.aload_n 2) 1 1982 := ⟨by decide +kernel, rfl⟩
theorem eL_law_1982 : am_d cL_law 1982 (.aload_n 0) 1 1983 := ⟨by decide +kernel, rfl⟩
theorem eL_law_1983 : am_d cL_law 1983 (.iload 4) 2 1985 := ⟨by decide +kernel, rfl⟩
theorem eL_law_1985 : am_d cL_law 1985 (.iconst 1) 1 1986 := ⟨by decide +kernel, rfl⟩
theorem eL_law_1986 : am_d cL_law 1986 (.iadd) 1 1987 := ⟨by decide +kernel, rfl⟩
theorem eL_law_1987 : am_d cL_law 1987 (.iaload) 1 1988 := ⟨by decide +kernel, rfl⟩
theorem eL_law_1988 : am_d cL_law 1988 (.invokevirtual 205) 3 1991 := ⟨by decide +kernel, rfl⟩
theorem eL_law_1991 : am_d cL_law 1991 (.istore 6) 2 1993 := ⟨by decide +kernel, rfl⟩
theorem eL_law_1993 : am_d cL_law 1993 (.aload_n 2) 1 1994 := ⟨by decide +kernel, rfl⟩
theorem eL_law_1994 : am_d cL_law 1994 (.invokevirtual 107) 3 1997 := ⟨by decide +kernel, rfl⟩
theorem eL_law_1997 : am_d cL_law 1997 (.iload 5) 2 1999 := ⟨by decide +kernel, rfl⟩
theorem eL_law_1999 : am_b cL_law 1999 (.if_icmp .eq 5) (5) 2002 2004 := ⟨by decide +kernel, rfl, by decide⟩
theorem eL_law_2002 : am_d cL_law 2002 (.iconst 0) 1 2003 := ⟨by decide +kernel, rfl⟩
theorem eL_law_2003 : am_d cL_law 2003 (.ireturn) 1 2004 := ⟨by decide +kernel, rfl⟩
theorem eL_law_2004 : am_d cL_law 2004 (.iload 5) 2 2006 := ⟨by decide +kernel, rfl⟩
theorem eL_law_2006 : am_b cL_law 2006 (.ifCond .ne 15) (15) 2009 2021 := ⟨by decide +kernel, rfl, by decide⟩
theorem eL_law_2009 : am_d cL_law 2009 (.aload_n 3) 1 2010 := ⟨by decide +kernel, rfl⟩
theorem eL_law_2010 : am_d cL_law 2010 (.iconst 0) 1 2011 := ⟨by decide +kernel, rfl⟩
theorem eL_law_2011 : am_d cL_law 2011 (.laload) 1 2012 := ⟨by decide +kernel, rfl⟩
theorem eL_law_2012 : am_d cL_law 2012 (.iload 6) 2 2014 := ⟨by decide +kernel, rfl⟩
theorem eL_law_2014 : am_d cL_law 2014 (.i2l) 1 2015 := ⟨by decide +kernel, rfl⟩
theorem eL_law_2015 : am_d cL_law 2015 (.lcmp) 1 2016 := ⟨by decide +kernel, rfl⟩
theorem eL_law_2016 : am_b cL_law 2016 (.ifCond .eq 5) (5) 2019 2021 := ⟨by decide +kernel, rfl, by decide⟩
theorem eL_law_2019 : am_d cL_law 2019 (.iconst 0) 1 2020 := ⟨by decide +kernel, rfl⟩
theorem eL_law_2020 : am_d cL_law 2020 (.ireturn) 1 2021 := ⟨by decide +kernel, rfl⟩
theorem eL_law_2021 : am_b cL_law 2021 (.goto 59) (59) 2024 2080 := ⟨by decide +kernel, rfl, by decide⟩
theorem eL_law_2024 : am_d cL_law 2024 (.aload_n 1) 1 2025 := ⟨by decide +kernel, rfl⟩
theorem eL_law_2025 : am_d cL_law 2025 (.aload_n 0) 1 2026 := ⟨by decide +kernel, rfl⟩
theorem eL_law_2026 : am_d cL_law 2026 (.iload 4) 2 2028 := ⟨by decide +kernel, rfl⟩
theorem eL_law_2028 : am_d cL_law 2028 (.iconst 1) 1 2029 := ⟨by decide +kernel, rfl⟩
theorem eL_law_2029 : am_d cL_law 2029 (.iadd) 1 2030 := ⟨by decide +kernel, rfl⟩
theorem eL_law_2030 : am_d cL_law 2030 (.iaload) 1 2031 := ⟨by decide +kernel, rfl⟩
theorem eL_law_2031 : am_d cL_law 2031 (.aload_n 3) 1 2032 := ⟨by decide +kernel, rfl⟩
theorem eL_law_2032 : am_d cL_law 2032 (.invokestatic 206) 3 2035 := ⟨by decide +kernel, rfl⟩
theorem eL_law_2035 : am_d cL_law 2035 (.istore 5) 2 2037 := ⟨by decide +kernel, rfl⟩
theorem eL_law_2037 : am_d cL_law 2037 (.aload_n 2) 1 2038 := ⟨by decide +kernel, rfl⟩
theorem eL_law_2038 : am_d cL_law 2038 (.aload_n 0) 1 2039 := ⟨by decide +kernel, rfl⟩
theorem eL_law_2039 : am_d cL_law 2039 (.iload 4) 2 2041 := ⟨by decide +kernel, rfl⟩
theorem eL_law_2041 : am_d cL_law 2041 (.iconst 1) 1 2042 := ⟨by decide +kernel, rfl⟩
theorem eL_law_2042 : am_d cL_law 2042 (.iadd) 1 2043 := ⟨by decide +kernel, rfl⟩
theorem eL_law_2043 : am_d cL_law 2043 (.iaload) 1 2044 := ⟨by decide +kernel, rfl⟩
theorem eL_law_2044 : am_d cL_law 2044 (.invokevirtual 208) 3 2047 := ⟨by decide +kernel, rfl⟩
theorem eL_law_2047 : am_d cL_law 2047 (.istore 6) 2 2049 := ⟨by decide +kernel, rfl⟩
theorem eL_law_2049 : am_d cL_law 2049 (.aload_n 2) 1 2050 := ⟨by decide +kernel, rfl⟩
theorem eL_law_2050 : am_d cL_law 2050 (.invokevirtual 107) 3 2053 := ⟨by decide +kernel, rfl⟩
theorem eL_law_2053 : am_d cL_law 2053 (.iload 5) 2 2055 := ⟨by decide +kernel, rfl⟩
theorem eL_law_2055 : am_b cL_law 2055 (.if_icmp .eq 5) (5) 2058 2060 := ⟨by decide +kernel, rfl, by decide⟩
theorem eL_law_2058 : am_d cL_law 2058 (.iconst 0) 1 2059 := ⟨by decide +kernel, rfl⟩
theorem eL_law_2059 : am_d cL_law 2059 (.ireturn) 1 2060 := ⟨by decide +kernel, rfl⟩
theorem eL_law_2060 : am_d cL_law 2060 (.iload 5) 2 2062 := ⟨by decide +kernel, rfl⟩
theorem eL_law_2062 : am_b cL_law 2062 (.ifCond .ne 15) (15) 2065 2077 := ⟨by decide +kernel, rfl, by decide⟩
theorem eL_law_2065 : am_d cL_law 2065 (.aload_n 3) 1 2066 := ⟨by decide +kernel, rfl⟩
theorem eL_law_2066 : am_d cL_law 2066 (.iconst 0) 1 2067 := ⟨by decide +kernel, rfl⟩
theorem eL_law_2067 : am_d cL_law 2067 (.laload) 1 2068 := ⟨by decide +kernel, rfl⟩
theorem eL_law_2068 : am_d cL_law 2068 (.iload 6) 2 2070 := ⟨by decide +kernel, rfl⟩
theorem eL_law_2070 : am_d cL_law 2070 (.i2l) 1 2071 := ⟨by decide +kernel, rfl⟩
theorem eL_law_2071 : am_d cL_law 2071 (.lcmp) 1 2072 := ⟨by decide +kernel, rfl⟩
theorem eL_law_2072 : am_b cL_law 2072 (.ifCond .eq 5) (5) 2075 2077 := ⟨by decide +kernel, rfl, by decide⟩
theorem eL_law_2075 : am_d cL_law 2075 (.iconst 0) 1 2076 := ⟨by decide +kernel, rfl⟩
theorem eL_law_2076 : am_d cL_law 2076 (.ireturn) 1 2077 := ⟨by decide +kernel, rfl⟩
theorem eL_law_2077 : am_b cL_law 2077 (.goto 3) (3) 2080 2080 := ⟨by decide +kernel, rfl, by decide⟩
theorem eL_law_2080 : am_d cL_law 2080 (.iinc 4 5) 3 2083 := ⟨by decide +kernel, rfl⟩
theorem eL_law_2083 : am_b cL_law 2083 (.goto (-2060)) (-2060) 2086 23 := ⟨by decide +kernel, rfl, by decide⟩
theorem eL_law_2086 : am_d cL_law 2086 (.iconst 1) 1 2087 := ⟨by decide +kernel, rfl⟩
theorem eL_law_2087 : am_d cL_law 2087 (.ireturn) 1 2088 := ⟨by decide +kernel, rfl⟩
end
section
/-! THE STATE: a function of field and place; fields 0 to 42 are the model's, in the order of its slots; from 49 on what the class has beside -/
abbrev sg_S : Type := Nat → Nat → Int
def st (σ : sg_S) (f i : Nat) (v : Int) : sg_S := fun g j => if g = f ∧ j = i then v else σ g j
/-- a truth value as an int -/
def bz (b : Bool) : Int := if b then 1 else 0
theorem bz_01 (b : Bool) : bz b = 0 ∨ bz b = 1 := by cases b <;> simp [bz]
theorem bz_r (b : Bool) : am_r (bz b) := by cases b <;> exact ⟨by decide, by decide⟩
theorem bz_0 {P : Prop} [Decidable P] : bz (decide P) = 0 ↔ ¬ P := by by_cases h : P <;> simp [bz, h]
theorem bz_1 {P : Prop} [Decidable P] (h : P) : bz (decide P) = 1 := by simp [bz, h]
theorem bz_2 {P : Prop} [Decidable P] (h : ¬ P) : bz (decide P) = 0 := by simp [bz, h]
theorem st_eq {σ : sg_S} {f i : Nat} {v : Int} : st σ f i v f i = v := by simp [st]
theorem st_nf {σ : sg_S} {f i g j : Nat} {v : Int} (h : g ≠ f) : st σ f i v g j = σ g j := by simp [st, h]
theorem st_ni {σ : sg_S} {f i g j : Nat} {v : Int} (h : j ≠ i) : st σ f i v g j = σ g j := by simp [st, h]
/-- the lengths of the model's arrays, 0 for what is none -/
def md_len : Nat → Nat
  | 4 => 12 | 5 => 12 | 6 => 12 | 7 => 12 | 8 => 12 | 9 => 36 | 10 => 36 | 12 => 24 | 13 => 24 | 14 => 5280 | 15 => 24 | 16 => 24 | 17 => 24 | 18 => 7200 | 19 => 7200 | 20 => 7200
  | 21 => 3 | 22 => 600 | 23 => 600 | 25 => 12 | 26 => 40 | 27 => 2 | 28 => 2 | 29 => 80 | 30 => 80 | 31 => 80 | 32 => 4800 | 33 => 2 | 34 => 80 | 35 => 80 | 36 => 80 | 37 => 80 | 38 => 4800 | 40 => 6 | 41 => 6 | 42 => 1200
  | _ => 0
def md_kd : Nat → Nat
  | 16 => 1 | 20 => 1 | 27 => 1 | 30 => 1 | 36 => 1
  | _ => 0
theorem md_big : ∀ f, md_len f < 10000 := by
  intro f
  unfold md_len
  split <;> decide
def md_fs (m : sg_S) : List am_AV := (List.range 43).map fun j => if md_len j = 0 then am_I (m j 0) else am_R (100 + j, 0)
def md_arr (m : sg_S) (f : Nat) : am_AC := am_A (md_kd f) (md_len f) (fun z => am_I (m f z))
/-- the class's cells -/
def en_x (x : sg_S) (k i : Nat) : Option am_AC := match k with
  | 8 => if i = 0 then some (am_O 8 [am_R (200, 0), am_R (201, 0), am_I (x 3 0), am_I (x 2 0), am_I (x 1 0), am_I (x 11 0), am_R (202, 0), am_R (203, 0), am_I (x 24 0), am_R (204, 0), am_R (6, 1), am_R (6, 0), am_R (205, 0), am_I (x 39 0)]) else none
  | 200 => if i = 0 then some (am_A 3 12 (fun t => if (t : Int) < x 3 0 then am_R (7, t) else am_N)) else none
  | 201 => if i = 0 then some (am_A 4 12 (fun s => if (s : Int) + 1 < x 3 0 then am_R (5, s) else am_N)) else none
  | 202 => if i = 0 then some (am_A 5 3 (fun b => am_R (1, b))) else none
  | 203 => if i = 0 then some (am_A 0 12 (fun z => am_I (x 25 z))) else none
  | 204 => if i = 0 then some (am_A 0 27 (fun z => am_I (x 50 z))) else none
  | 205 => if i = 0 then some (am_A 6 6 (fun z => if (z : Int) < x 39 0 then am_R (4, z) else am_N)) else none
  | 7 => if (i : Int) < x 3 0 then some (am_O 7 [am_I (x 4 i), am_I (x 6 i), am_R (0, 2 * i + 1), am_R (0, 2 * i)]) else none
  | 0 => if ((i / 2 : Nat) : Int) < x 3 0 then some (am_O 0 [am_R (210, i), am_I (x 12 i), am_I (x 13 i), am_I (if x 16 i = 0 then x 15 i else -1), am_R (3, i)]) else none
  | 210 => if ((i / 2 : Nat) : Int) < x 3 0 then some (am_A 0 200 (fun z => am_I (x 14 (220 * i + z)))) else none
  | 3 => if ((i / 2 : Nat) : Int) < x 3 0 then some (am_O 3 [am_R (211, i), am_R (212, i), am_R (213, i), am_I (x 17 i)]) else none
  | 211 => if ((i / 2 : Nat) : Int) < x 3 0 then some (am_A 0 300 (fun z => am_I (x 18 (300 * i + z)))) else none
  | 212 => if ((i / 2 : Nat) : Int) < x 3 0 then some (am_A 0 300 (fun z => am_I (x 19 (300 * i + z)))) else none
  | 213 => if ((i / 2 : Nat) : Int) < x 3 0 then some (am_A 1 300 (fun z => am_I (x 20 (300 * i + z)))) else none
  | 5 => if (i : Int) + 1 < x 3 0 then some (am_O 5 [am_I (x 5 (i + 1)), am_R (214, i), am_R (215, i), am_I (x 8 i), am_I (x 7 i)]) else none
  | 214 => if (i : Int) + 1 < x 3 0 then some (am_A 0 3 (fun z => am_I (x 9 (3 * i + z)))) else none
  | 215 => if (i : Int) + 1 < x 3 0 then some (am_A 0 3 (fun z => am_I (x 10 (3 * i + z)))) else none
  | 1 => if i < 3 then some (am_O 1 [am_R (216, i), am_R (217, i), am_I (x 21 i)]) else none
  | 216 => if i < 3 then some (am_A 0 200 (fun z => am_I (x 22 (200 * i + z)))) else none
  | 217 => if i < 3 then some (am_A 0 200 (fun z => am_I (x 23 (200 * i + z)))) else none
  | 6 => if i < 2 then some (am_O 6 [am_R (218, i), am_I (x 33 i), (if x 28 i ≤ 0 then am_N else am_R (2, (x 56 (40 * i + ((x 28 i).toNat - 1))).toNat)), am_I (x 28 i), am_I (x 27 i)]) else none
  | 218 => if i < 2 then some (am_A 7 40 (fun z => if (z : Int) < x 33 i then am_R (2, (x 57 (40 * i + z)).toNat) else am_N)) else none
  | 2 => if (i : Int) < x 51 0 then some (am_O 2 [am_I (x 60 i), am_I (x 61 i), am_I (x 62 i), am_R (219, i), am_I (x 63 i), (if x 64 i < 0 then am_N else am_R (2, (x 64 i).toNat))]) else none
  | 219 => if (i : Int) < x 51 0 then some (am_A 0 60 (fun z => am_I (x 65 (60 * i + z)))) else none
  | 4 => if (i : Int) < x 39 0 then some (am_O 4 [am_I (x 40 i), am_R (220, i), am_I (x 41 i)]) else none
  | 220 => if (i : Int) < x 39 0 then some (am_A 0 200 (fun z => am_I (x 42 (200 * i + z)))) else none
  | 221 => if (i : Int) < x 52 0 then some (am_A 0 12 (fun z => am_I (if (z : Int) = x 53 i then x 54 i else 0))) else none
  | 222 => if (i : Int) < x 52 0 then some (am_A 1 12 (fun _ => am_I 0)) else none
  | _ => none
/-- the whole heap: the model at m, the class at x, the law's long at x 49 -/
def en_h (m x : sg_S) : am_AH := fun n =>
  if n.1 = 9 then (if n.2 = 0 then some (am_O 9 (md_fs m)) else none)
  else if n.1 = 98 then (if n.2 = 0 then some (am_A 2 1 (fun _ => am_J (x 49 0))) else none)
  else if 100 ≤ n.1 ∧ n.1 < 143 then (if n.2 = 0 ∧ md_len (n.1 - 100) ≠ 0 then some (md_arr m (n.1 - 100)) else none)
  else en_x x n.1 n.2
theorem en_9 {m x : sg_S} : en_h m x (9, 0) = some (am_O 9 (md_fs m)) := rfl
theorem en_m {m x : sg_S} {f : Nat} (h : md_len f ≠ 0) : en_h m x (100 + f, 0) = some (md_arr m f) := by
  have hf : f < 43 := by
    rcases Nat.lt_or_ge f 43 with z | z
    · exact z
    · exact absurd (by unfold md_len; split <;> first | omega | rfl) h
  have e : 100 + f - 100 = f := by omega
  simp only [en_h]
  rw [if_neg (by omega), if_neg (by omega), if_pos ⟨by omega, by omega⟩, e, if_pos ⟨trivial, h⟩]
theorem md_fs_at {m : sg_S} {f : Nat} (h : f < 43) : (md_fs m)[f]? = some (if md_len f = 0 then am_I (m f 0) else am_R (100 + f, 0)) := by
  simp [md_fs, h]
theorem md_fs_len {m : sg_S} : (md_fs m).length = 43 := by simp [md_fs]
theorem en_put {m x : sg_S} {f : Nat} {v : Int} (hf : f < 43) (hl : md_len f = 0) : am_up (en_h m x) (9, 0) (am_O 9 ((md_fs m).set f (am_I v))) = en_h (st m f 0 v) x := by
  funext n
  by_cases e : n = (9, 0)
  · subst e
    simp only [am_up, if_true, en_9]
    congr 2
    refine List.ext_getElem? fun j => ?_
    by_cases hj : j < 43
    · by_cases ej : j = f
      · subst ej
        rw [List.getElem?_set_self (by rw [md_fs_len]; exact hj), md_fs_at hj, if_pos hl, st_eq]
      · rw [List.getElem?_set_ne (Ne.symm ej), md_fs_at hj, md_fs_at hj, st_nf ej]
    · rw [List.getElem?_eq_none (by simp [md_fs_len]; omega), List.getElem?_eq_none (by simp [md_fs_len]; omega)]
  · simp only [am_up, if_neg e, en_h]
    by_cases h9 : n.1 = 9
    · rw [if_pos h9, if_pos h9]
      have : n.2 ≠ 0 := fun z => e (Prod.ext h9 z)
      rw [if_neg this, if_neg this]
    · rw [if_neg h9, if_neg h9]
      by_cases h8 : n.1 = 98
      · rw [if_pos h8, if_pos h8]
      · rw [if_neg h8, if_neg h8]
        by_cases hm : 100 ≤ n.1 ∧ n.1 < 143
        · rw [if_pos hm, if_pos hm]
          by_cases hz : n.2 = 0 ∧ md_len (n.1 - 100) ≠ 0
          · rw [if_pos hz, if_pos hz]
            have hne : n.1 - 100 ≠ f := fun z => hz.2 (by rw [z]; exact hl)
            simp only [md_arr, st_nf hne]
          · rw [if_neg hz, if_neg hz]
        · rw [if_neg hm, if_neg hm]
theorem en_ast {m x : sg_S} {f j : Nat} {v : Int} (hl : md_len f ≠ 0) : am_up (en_h m x) (100 + f, 0) (am_A (md_kd f) (md_len f) (fun z => am_I (if z = j then v else m f z))) = en_h (st m f j v) x := by
  have hf : f < 43 := by
    rcases Nat.lt_or_ge f 43 with z | z
    · exact z
    · exact absurd (by unfold md_len; split <;> first | omega | rfl) hl
  funext n
  by_cases e : n = (100 + f, 0)
  · subst e
    simp only [am_up, if_true, en_m hl]
    simp only [md_arr]
    congr 4
    funext z
    by_cases hz : z = j <;> simp [st, hz]
  · simp only [am_up, if_neg e, en_h]
    by_cases h9 : n.1 = 9
    · rw [if_pos h9, if_pos h9]
      by_cases h0 : n.2 = 0
      · rw [if_pos h0, if_pos h0]
        congr 2
        refine List.ext_getElem? fun k => ?_
        by_cases hk : k < 43
        · rw [md_fs_at hk, md_fs_at hk]
          by_cases hq : md_len k = 0
          · rw [if_pos hq, if_pos hq, st_nf (fun z => hl (by rw [← z]; exact hq))]
          · rw [if_neg hq, if_neg hq]
        · rw [List.getElem?_eq_none (by simp [md_fs_len]; omega), List.getElem?_eq_none (by simp [md_fs_len]; omega)]
      · rw [if_neg h0, if_neg h0]
    · rw [if_neg h9, if_neg h9]
      by_cases h8 : n.1 = 98
      · rw [if_pos h8, if_pos h8]
      · rw [if_neg h8, if_neg h8]
        by_cases hm : 100 ≤ n.1 ∧ n.1 < 143
        · rw [if_pos hm, if_pos hm]
          by_cases hz : n.2 = 0 ∧ md_len (n.1 - 100) ≠ 0
          · rw [if_pos hz, if_pos hz]
            have hne : n.1 - 100 ≠ f := fun z => e (Prod.ext (by show n.1 = 100 + f; omega) hz.1)
            simp only [md_arr, st_nf hne]
          · rw [if_neg hz, if_neg hz]
        · rw [if_neg hm, if_neg hm]
theorem am_uf_I {F : Nat → Int} {j : Nat} {v : Int} : am_uf (fun z => am_I (F z)) j (am_I v) = fun z => am_I (if z = j then v else F z) := by
  funext z
  by_cases h : z = j <;> simp [am_uf, h]
/-- what comes back from a call: a value, and a heap; nothing, and a heap; one of two -/
def am_is (v : am_AV) (h1 : am_AH) : am_Re → am_AH → Prop := fun r h' => r = .inl (some v) ∧ h' = h1
def am_vd (h1 : am_AH) : am_Re → am_AH → Prop := fun r h' => r = .inl none ∧ h' = h1
def am_if (P : Prop) (v : am_AV) (h1 : am_AH) (e : Nat) (h2 : am_AH) : am_Re → am_AH → Prop := fun r h' => (P ∧ r = .inl (some v) ∧ h' = h1) ∨ (¬ P ∧ r = .inr e ∧ h' = h2)
section MdRules
variable {G : am_G} {X : am_X} {Y : am_Y} {d mc ms : Nat} {Q : State → Prop} {pc q t : Nat} {ls : List (Option am_AV)} {st9 : List am_AV} {m x : sg_S} {k n : Nat}
theorem md_getI {f idx : Nat} (hd : am_d Y.1 pc (.getfield idx) 3 q) (hf : am_fl Y.2.2.1 idx 9 f) {v : Int} (hl : md_len f = 0) (hlt : f < 43) (hv : m f 0 = v) (kk : am_W G X Y d mc ms Q q ls (am_I v :: st9) (en_h m x) k n) : am_W G X Y d mc ms Q pc ls (am_R (9, 0) :: st9) (en_h m x) k n :=
  am_getf hd hf en_9 (by rw [md_fs_at hlt, if_pos hl, hv]) kk
theorem md_getA {f idx : Nat} (hd : am_d Y.1 pc (.getfield idx) 3 q) (hf : am_fl Y.2.2.1 idx 9 f) (hl : md_len f ≠ 0) (hlt : f < 43) (kk : am_W G X Y d mc ms Q q ls (am_R (100 + f, 0) :: st9) (en_h m x) k n) : am_W G X Y d mc ms Q pc ls (am_R (9, 0) :: st9) (en_h m x) k n :=
  am_getf hd hf en_9 (by rw [md_fs_at hlt, if_neg hl]) kk
theorem md_put {f idx : Nat} {v : Int} (hd : am_d Y.1 pc (.putfield idx) 3 q) (hf : am_fl Y.2.2.1 idx 9 f) (hfin : am_fin 9 f = false) (hl : md_len f = 0) (hlt : f < 43) (hfit : am_fit (am_fty 9 f) (am_I v)) (kk : am_W G X Y d mc ms Q q ls st9 (en_h (st m f 0 v) x) k n) : am_W G X Y d mc ms Q pc ls (am_I v :: am_R (9, 0) :: st9) (en_h m x) k n :=
  am_putf hd hf hfin en_9 (by rw [md_fs_len]; exact hlt) hfit (am_heq (en_put hlt hl) kk)
theorem md_ald {f j : Nat} {i v : Int} (hd : am_d Y.1 pc .iaload 1 q) (hl : j < md_len f) (hk : md_kd f = 0) (hi : i = (j : Int)) (hv : m f j = v) (kk : am_W G X Y d mc ms Q q ls (am_I v :: st9) (en_h m x) k n) : am_W G X Y d mc ms Q pc ls (am_I i :: am_R (100 + f, 0) :: st9) (en_h m x) k n := by
  subst hi
  refine am_iald (len := md_len f) hd ((en_m (by omega)).trans (by rw [md_arr, hk])) (by omega) (by omega) (by have := md_big f; omega) (x := v) (by simp [hv]) kk
theorem md_bald {f j : Nat} {i v : Int} (hd : am_d Y.1 pc .baload 1 q) (hl : j < md_len f) (hk : md_kd f = 1) (hi : i = (j : Int)) (hv : m f j = v) (kk : am_W G X Y d mc ms Q q ls (am_I v :: st9) (en_h m x) k n) : am_W G X Y d mc ms Q pc ls (am_I i :: am_R (100 + f, 0) :: st9) (en_h m x) k n := by
  subst hi
  refine am_bald (len := md_len f) hd ((en_m (by omega)).trans (by rw [md_arr, hk])) (by omega) (by omega) (by have := md_big f; omega) (x := v) (by simp [hv]) kk
theorem md_ast {f j : Nat} {i v : Int} (hd : am_d Y.1 pc .iastore 1 q) (hl : j < md_len f) (hk : md_kd f = 0) (hi : i = (j : Int)) (kk : am_W G X Y d mc ms Q q ls st9 (en_h (st m f j v) x) k n) : am_W G X Y d mc ms Q pc ls (am_I v :: am_I i :: am_R (100 + f, 0) :: st9) (en_h m x) k n := by
  subst hi
  refine am_iast (len := md_len f) hd ((en_m (by omega)).trans (by rw [md_arr, hk])) (by omega) (by omega) (by have := md_big f; omega) (am_heq ?_ kk)
  rw [am_uf_I, ← en_ast (by omega), hk, Int.toNat_natCast]
theorem md_bast {f j : Nat} {i v : Int} (hd : am_d Y.1 pc .bastore 1 q) (hl : j < md_len f) (hk : md_kd f = 1) (hi : i = (j : Int)) (hv : v = 0 ∨ v = 1) (kk : am_W G X Y d mc ms Q q ls st9 (en_h (st m f j v) x) k n) : am_W G X Y d mc ms Q pc ls (am_I v :: am_I i :: am_R (100 + f, 0) :: st9) (en_h m x) k n := by
  subst hi
  refine am_bast (len := md_len f) hd ((en_m (by omega)).trans (by rw [md_arr, hk])) (by omega) (by omega) (by have := md_big f; omega) hv (am_heq ?_ kk)
  rw [am_uf_I, ← en_ast (by omega), hk, Int.toNat_natCast]
end MdRules
section CallRules
variable {G : am_G} {X : am_X} {Y : am_Y} {d mc ms : Nat} {Qs : State → Prop} {pc q t : Nat} {ls : List (Option am_AV)} {st : List am_AV} {h h1 : am_AH} {k n : Nat}
variable {idx ci na d' nL' : Nat} {y : MethodName} {bytes : ByteArray} {ret : Option FieldType} {as fs st0 : List am_AV} {nm : am_Nm} {v : am_AV}
/-- calls that make nothing and don't throw: with a value, without -/
theorem am_cS (hd : am_d Y.1 pc (.invokestatic idx) 3 q) (hw : am_ms_ Y.2.2.1 idx y na (.code y bytes nL' ret)) (hC : am_Con G y (.code y bytes nL' ret) d' 0 0 as h (am_is v h1)) (hst0 : st0 = as.reverse ++ st) (hna : as.length = na) (hdd : d' + 1 ≤ d) (hnL : nL' ≤ 17) (hst : st.length ≤ 4) (hk : k ≤ mc) (hn : n ≤ ms)
    (kk : am_W G X Y d mc ms Qs q ls (v :: st) h1 k n) : am_W G X Y d mc ms Qs pc ls st0 h k n :=
  am_callS hd hw hC hst0 hna hdd hnL hst hk hn (fun r h' hq => by obtain ⟨e1, rfl⟩ := hq; cases e1; exact kk) (fun x h' hq => by obtain ⟨e1, -⟩ := hq; cases e1)
theorem am_cS_v (hd : am_d Y.1 pc (.invokestatic idx) 3 q) (hw : am_ms_ Y.2.2.1 idx y na (.code y bytes nL' ret)) (hC : am_Con G y (.code y bytes nL' ret) d' 0 0 as h (am_vd h1)) (hst0 : st0 = as.reverse ++ st) (hna : as.length = na) (hdd : d' + 1 ≤ d) (hnL : nL' ≤ 17) (hst : st.length ≤ 4) (hk : k ≤ mc) (hn : n ≤ ms)
    (kk : am_W G X Y d mc ms Qs q ls st h1 k n) : am_W G X Y d mc ms Qs pc ls st0 h k n :=
  am_callS hd hw hC hst0 hna hdd hnL hst hk hn (fun r h' hq => by obtain ⟨e1, rfl⟩ := hq; cases e1; exact kk) (fun x h' hq => by obtain ⟨e1, -⟩ := hq; cases e1)
theorem am_cV (hd : am_d Y.1 pc (.invokevirtual idx) 3 q) (hw : am_mv_ Y.2.2.1 idx ci y na (.code y bytes nL' ret)) (hC : am_Con G y (.code y bytes nL' ret) d' 0 0 (am_R nm :: as) h (am_is v h1)) (hst0 : st0 = as.reverse ++ am_R nm :: st) (hna : as.length = na) (hh : h nm = some (am_O ci fs)) (hdd : d' + 1 ≤ d) (hnL : nL' ≤ 17) (hst : st.length ≤ 4) (hk : k ≤ mc) (hn : n ≤ ms)
    (kk : am_W G X Y d mc ms Qs q ls (v :: st) h1 k n) : am_W G X Y d mc ms Qs pc ls st0 h k n :=
  am_callV hd hw hC hst0 hna hh hdd hnL hst hk hn (fun r h' hq => by obtain ⟨e1, rfl⟩ := hq; cases e1; exact kk) (fun x h' hq => by obtain ⟨e1, -⟩ := hq; cases e1)
theorem am_cV_v (hd : am_d Y.1 pc (.invokevirtual idx) 3 q) (hw : am_mv_ Y.2.2.1 idx ci y na (.code y bytes nL' ret)) (hC : am_Con G y (.code y bytes nL' ret) d' 0 0 (am_R nm :: as) h (am_vd h1)) (hst0 : st0 = as.reverse ++ am_R nm :: st) (hna : as.length = na) (hh : h nm = some (am_O ci fs)) (hdd : d' + 1 ≤ d) (hnL : nL' ≤ 17) (hst : st.length ≤ 4) (hk : k ≤ mc) (hn : n ≤ ms)
    (kk : am_W G X Y d mc ms Qs q ls st h1 k n) : am_W G X Y d mc ms Qs pc ls st0 h k n :=
  am_callV hd hw hC hst0 hna hh hdd hnL hst hk hn (fun r h' hq => by obtain ⟨e1, rfl⟩ := hq; cases e1; exact kk) (fun x h' hq => by obtain ⟨e1, -⟩ := hq; cases e1)
end CallRules
section BzRules
variable {G : am_G} {X : am_X} {Y : am_Y} {d mc ms : Nat} {Q : State → Prop} {pc q t : Nat} {ls : List (Option am_AV)} {st : List am_AV} {h : am_AH} {k n : Nat} {o : Int} {P : Prop}
theorem am_bz_eq [Decidable P] (hd : am_b Y.1 pc (.ifCond .eq o) o q t) (kt : ¬ P → am_W G X Y d mc ms Q t ls st h k n) (kf : P → am_W G X Y d mc ms Q q ls st h k n) : am_W G X Y d mc ms Q pc ls (am_I (bz (decide P)) :: st) h k n :=
  am_if_eq (bz_r _) hd (fun c => kt (bz_0.mp c)) (fun c => kf (Decidable.byContradiction fun z => c (bz_0.mpr z)))
theorem am_bz_ne [Decidable P] (hd : am_b Y.1 pc (.ifCond .ne o) o q t) (kt : P → am_W G X Y d mc ms Q t ls st h k n) (kf : ¬ P → am_W G X Y d mc ms Q q ls st h k n) : am_W G X Y d mc ms Q pc ls (am_I (bz (decide P)) :: st) h k n :=
  am_if_ne (bz_r _) hd (fun c => kt (Decidable.byContradiction fun z => c (bz_0.mpr z))) (fun c => kf (bz_0.mp c))
end BzRules
end
section
theorem zz_probe : True := trivial
end
